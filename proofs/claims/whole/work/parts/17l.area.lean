/-! THE PURE PART, part 17: the area, both sides. Own work. -/
/-- twice the area, so far -/
def dar (X_z Y : Int → Int) (nx : Nat → Int) : Nat → Int
  | 0 => 0
  | k_z + 1 => dar X_z Y nx k_z + (X_z k_z * Y (nx k_z) - X_z (nx k_z) * Y k_z)
theorem dar_bd {X_z Y F_z : Int → Int} {n_z : Int} (h_z : Pol X_z Y F_z n_z) : ∀ k_z : Nat, (k_z : Int) ≤ n_z → -(4000000000 * (k_z : Int)) ≤ dar X_z Y (nxP F_z n_z) k_z ∧ dar X_z Y (nxP F_z n_z) k_z ≤ 4000000000 * (k_z : Int) := by
  obtain ⟨n0_z, n24_z, pts⟩ := h_z
  intro k_z
  induction k_z with
  | zero => exact fun _ => ⟨by simp [dar], by simp [dar]⟩
  | succ k_z ih_z =>
    intro hk
    have i1_z := ih_z (by omega)
    have nb := nxP_bd (F_z := F_z) (n_z := n_z) (k_z := k_z) (by omega)
    have a1_z := pts k_z (by omega) (by omega)
    have a2 := pts _ nb.1 nb.2
    have m1_z := mul40 (a_z := X_z k_z) (b_z := Y (nxP F_z n_z k_z)) (by omega) (by omega)
    have m2_z := mul40 (a_z := X_z (nxP F_z n_z k_z)) (b_z := Y k_z) (by omega) (by omega)
    have e_z : dar X_z Y (nxP F_z n_z) (k_z + 1) = dar X_z Y (nxP F_z n_z) k_z + (X_z k_z * Y (nxP F_z n_z k_z) - X_z (nxP F_z n_z k_z) * Y k_z) := rfl
    rw [e_z]
    omega
def absI (s_z : Int) : Int := if s_z < 0 then -s_z else s_z
section DL
variable {G : Env0} {Q : Option AV → Mem → Prop} {M T : Mem} {c m b r : Nat}
theorem X_areaC {p_z a_z n_z K_z : Int} {X_z Y F_z Bg : Int → Int} (h_z : ShPa M r) (p0_z : 0 ≤ p_z) (p1_z : p_z < gI M r 5) (p2_z : gI M r 5 ≤ 200) (ha_z : gI M (r + 4) p_z = a_z) (hb_z : gI M (r + 4) (p_z + 1) = a_z + n_z) (a0_z : 0 ≤ a_z) (an : a_z + n_z ≤ 800) (hP : Pol X_z Y F_z n_z) (hX : ∀ i_z, 0 ≤ i_z → i_z < n_z → gI M (r + 1) (a_z + i_z) = X_z i_z) (hY : ∀ i_z, 0 ≤ i_z → i_z < n_z → gI M (r + 2) (a_z + i_z) = Y i_z) (hF : ∀ i_z, 0 ≤ i_z → i_z < n_z → gI M (r + 3) (a_z + i_z) = F_z i_z) (hB_z : PB F_z n_z Bg K_z) (hQ : Q (some (a_l (absI (dar X_z Y (nxP F_z n_z) n_z.toNat)))) M) : Call G J_Pa_findDoubleArea [a_r r, a_i p_z] M Q := by
  have dbd := dar_bd hP
  obtain ⟨n0_z, n24_z, hpt⟩ := hP
  have st_z := fun qq => X_startOf (G := G) (Q := qq) (x_z := p_z) h_z p0_z (by omega)
  have en := fun qq => X_endOf (G := G) (Q := qq) (x_z := p_z) h_z p0_z (by omega) p1_z
  rw [ha_z] at st_z
  rw [hb_z] at en
  have loop_z : ∀ d_z k_z : Nat, (k_z : Int) + d_z = n_z → ∀ f_z : Int, (k_z = 0 → f_z = a_z) → (∀ j_z, k_z = j_z + 1 → f_z = a_z + fsP F_z j_z) → ∀ u3 u7 : AV, At G 167 20 [a_r r, a_i p_z, a_l (dar X_z Y (nxP F_z n_z) k_z), u3, a_i (a_z + n_z), a_i f_z, a_i (a_z + (k_z : Int)), u7] [] M Q := by
    intro d_z
    induction d_z with
    | zero =>
      intro k_z hk f_z _ _ u3 u7
      have e_z : n_z.toNat = k_z := by omega
      have db := dbd k_z (by omega)
      rw [e_z] at hQ
      generalize dar X_z Y (nxP F_z n_z) k_z = s_z at *
      unfold absI at hQ
      by_cases cs : s_z < 0
      · rw [if_pos cs] at hQ
        simp (disch := omega) only [B_167_20, B_167_97, B_167_109, inI, inL, isT, kInt, kByt, true_and, and_true, an_t, im_t, im_f, or_true, true_or, true_imp_iff, false_imp_iff, not_true_eq_false, not_false_eq_true, gK_uI, gK_uL, gK_uR, gK_uCI, gK_uCL, gN_uI, gN_uL, gN_uR, gN_uCI, gN_uCL, gR_uI, gR_uL, gR_uCI, gR_uCL, gI_uL, gI_uR, gI_uCL, gL_uI, gL_uR, gL_uCI, gz_uI, gz_uL, gz_uR, gz_uCI, gz_uCL, gs_uI, gs_uL, gs_uR, gs_uCI, gs_uCL, rI_at, rL_at, rR_at, rI_ne, rL_ne, rR_ne, rI_nk, rL_nk, rR_nk, rI_eq, rL_eq, rR_eq, Option.toList_some, Option.toList_none, List.cons_append, List.nil_append, List.append_nil, zc_eq, zc_lt, zc_le, zc_ge, zc_gt]
        all_goals exact hQ
      · rw [if_neg cs] at hQ
        simp (disch := omega) only [B_167_20, B_167_97, B_167_108, B_167_109, inI, inL, isT, kInt, kByt, true_and, and_true, an_t, im_t, im_f, or_true, true_or, true_imp_iff, false_imp_iff, not_true_eq_false, not_false_eq_true, gK_uI, gK_uL, gK_uR, gK_uCI, gK_uCL, gN_uI, gN_uL, gN_uR, gN_uCI, gN_uCL, gR_uI, gR_uL, gR_uCI, gR_uCL, gI_uL, gI_uR, gI_uCL, gL_uI, gL_uR, gL_uCI, gz_uI, gz_uL, gz_uR, gz_uCI, gz_uCL, gs_uI, gs_uL, gs_uR, gs_uCI, gs_uCL, rI_at, rL_at, rR_at, rI_ne, rL_ne, rR_ne, rI_nk, rL_nk, rR_nk, rI_eq, rL_eq, rR_eq, Option.toList_some, Option.toList_none, List.cons_append, List.nil_append, List.append_nil, zc_eq, zc_lt, zc_le, zc_ge, zc_gt]
        all_goals exact hQ
    | succ d_z ih_z =>
      intro k_z hk f_z hf0 hf1 u3 u7
      have kn_z : (k_z : Int) < n_z := by omega
      obtain ⟨q1_z, q2_z, q3_z⟩ := hpt k_z (by omega) kn_z
      have nb := nxP_bd (F_z := F_z) kn_z
      obtain ⟨w1_z, w2_z, -⟩ := hpt (nxP F_z n_z k_z) nb.1 nb.2
      have fk := hF k_z (by omega) kn_z
      have db := dbd k_z (by omega)
      have nx := fun qq => X_nextC (G := G) (Q := qq) (i_z := a_z + (k_z : Int)) (f_z := a_z + fsP F_z k_z) (e_z := a_z + n_z) h_z rfl rfl rfl a0_z an kn_z hF
      have x1_z := hX k_z (by omega) kn_z
      have y1 := hY k_z (by omega) kn_z
      have x2_z := hX _ nb.1 nb.2
      have y2 := hY _ nb.1 nb.2
      have m1_z := mul40 (a_z := X_z k_z) (b_z := Y (nxP F_z n_z k_z)) (by omega) (by omega)
      have m2_z := mul40 (a_z := X_z (nxP F_z n_z k_z)) (b_z := Y k_z) (by omega) (by omega)
      have go_z := ih_z (k_z + 1) (by omega) (a_z + fsP F_z k_z) (fun q_z => by omega) (fun j_z hj => by
        have : j_z = k_z := by omega
        rw [this]) a_u (a_i (a_z + nxP F_z n_z k_z))
      rw [show dar X_z Y (nxP F_z n_z) (k_z + 1) = dar X_z Y (nxP F_z n_z) k_z + (X_z k_z * Y (nxP F_z n_z k_z) - X_z (nxP F_z n_z k_z) * Y k_z) from rfl, show a_z + ((k_z + 1 : Nat) : Int) = a_z + (k_z : Int) + 1 from by omega] at go_z
      generalize dar X_z Y (nxP F_z n_z) k_z = s_z at *
      generalize hP1 : X_z k_z * Y (nxP F_z n_z k_z) = P1_z at *
      generalize hP2 : X_z (nxP F_z n_z k_z) * Y k_z = P2_z at *
      have at41 : At G 167 41 [a_r r, a_i p_z, a_l s_z, u3, a_i (a_z + n_z), a_i (a_z + fsP F_z k_z), a_i (a_z + (k_z : Int)), u7] [] M Q := by
        simp (disch := omega) only [B_167_41, h_z.u, nx, B_167_51, x1_z, y1, x2_z, y2, hP1, hP2, inI, inL, isT, kInt, kByt, true_and, and_true, an_t, im_t, im_f, or_true, true_or, true_imp_iff, false_imp_iff, not_true_eq_false, not_false_eq_true, gK_uI, gK_uL, gK_uR, gK_uCI, gK_uCL, gN_uI, gN_uL, gN_uR, gN_uCI, gN_uCL, gR_uI, gR_uL, gR_uCI, gR_uCL, gI_uL, gI_uR, gI_uCL, gL_uI, gL_uR, gL_uCI, gz_uI, gz_uL, gz_uR, gz_uCI, gz_uCL, gs_uI, gs_uL, gs_uR, gs_uCI, gs_uCL, rI_at, rL_at, rR_at, rI_ne, rL_ne, rR_ne, rI_nk, rL_nk, rR_nk, rI_eq, rL_eq, rR_eq, Option.toList_some, Option.toList_none, List.cons_append, List.nil_append, List.append_nil, zc_eq, zc_lt, zc_le, zc_ge, zc_gt]
        all_goals exact go_z
      have fs : (F_z k_z = 0 → f_z = a_z + fsP F_z k_z) ∧ (¬ F_z k_z = 0 → a_z + (k_z : Int) = a_z + fsP F_z k_z) := by
        cases k_z with
        | zero =>
          have b0 := hB_z.2.2.1 (by omega)
          have b1 := (hB_z.2.2.2.1 0 (by decide) (by omega)).2.2
          rw [b0.2] at b1
          exact ⟨fun q_z => by
            have : F_z ((0 : Nat) : Int) = F_z 0 := rfl
            omega, fun _ => rfl⟩
        | succ j_z =>
          have hj := hf1 j_z rfl
          have c1_z : (((j_z + 1 : Nat)) : Int) = (j_z : Int) + 1 := by omega
          rw [c1_z]
          have eqn : fsP F_z (j_z + 1) = if F_z ((j_z : Int) + 1) = 0 then fsP F_z j_z else (j_z : Int) + 1 := rfl
          exact ⟨fun q_z => by rw [hj, eqn, if_pos q_z], fun q_z => by rw [eqn, if_neg q_z]⟩
      by_cases cf_z : F_z k_z = 0
      · have ff_z := fs.1 cf_z
        rw [ff_z]
        simp (disch := omega) only [B_167_20, h_z.u, fk, cf_z, inI, inL, isT, kInt, kByt, true_and, and_true, an_t, im_t, im_f, or_true, true_or, true_imp_iff, false_imp_iff, not_true_eq_false, not_false_eq_true, gK_uI, gK_uL, gK_uR, gK_uCI, gK_uCL, gN_uI, gN_uL, gN_uR, gN_uCI, gN_uCL, gR_uI, gR_uL, gR_uCI, gR_uCL, gI_uL, gI_uR, gI_uCL, gL_uI, gL_uR, gL_uCI, gz_uI, gz_uL, gz_uR, gz_uCI, gz_uCL, gs_uI, gs_uL, gs_uR, gs_uCI, gs_uCL, rI_at, rL_at, rR_at, rI_ne, rL_ne, rR_ne, rI_nk, rL_nk, rR_nk, rI_eq, rL_eq, rR_eq, Option.toList_some, Option.toList_none, List.cons_append, List.nil_append, List.append_nil, zc_eq, zc_lt, zc_le, zc_ge, zc_gt]
        all_goals exact at41
      · have ff_z := fs.2 cf_z
        rw [← ff_z] at at41
        simp (disch := omega) only [B_167_20, h_z.u, fk, cf_z, inI, inL, isT, kInt, kByt, true_and, and_true, an_t, im_t, im_f, or_true, true_or, true_imp_iff, false_imp_iff, not_true_eq_false, not_false_eq_true, gK_uI, gK_uL, gK_uR, gK_uCI, gK_uCL, gN_uI, gN_uL, gN_uR, gN_uCI, gN_uCL, gR_uI, gR_uL, gR_uCI, gR_uCL, gI_uL, gI_uR, gI_uCL, gL_uI, gL_uR, gL_uCI, gz_uI, gz_uL, gz_uR, gz_uCI, gz_uCL, gs_uI, gs_uL, gs_uR, gs_uCI, gs_uCL, rI_at, rL_at, rR_at, rI_ne, rL_ne, rR_ne, rI_nk, rL_nk, rR_nk, rI_eq, rL_eq, rR_eq, Option.toList_some, Option.toList_none, List.cons_append, List.nil_append, List.append_nil, zc_eq, zc_lt, zc_le, zc_ge, zc_gt]
        all_goals exact at41
  have l0 := loop_z n_z.toNat 0 (by omega) a_z (fun _ => rfl) (fun j_z hj => by omega)
  rw [show dar X_z Y (nxP F_z n_z) 0 = 0 from rfl, show a_z + ((0 : Nat) : Int) = a_z from by omega] at l0
  simp (disch := omega) only [E_Pa_findDoubleArea, B_167_0, h_z.u, en, B_167_7, st_z, B_167_14, inI, inL, isT, kInt, kByt, true_and, and_true, an_t, im_t, im_f, or_true, true_or, true_imp_iff, false_imp_iff, not_true_eq_false, not_false_eq_true, gK_uI, gK_uL, gK_uR, gK_uCI, gK_uCL, gN_uI, gN_uL, gN_uR, gN_uCI, gN_uCL, gR_uI, gR_uL, gR_uCI, gR_uCL, gI_uL, gI_uR, gI_uCL, gL_uI, gL_uR, gL_uCI, gz_uI, gz_uL, gz_uR, gz_uCI, gz_uCL, gs_uI, gs_uL, gs_uR, gs_uCI, gs_uCL, rI_at, rL_at, rR_at, rI_ne, rL_ne, rR_ne, rI_nk, rL_nk, rR_nk, rI_eq, rL_eq, rR_eq, Option.toList_some, Option.toList_none, List.cons_append, List.nil_append, List.append_nil, zc_eq, zc_lt, zc_le, zc_ge, zc_gt]
  all_goals exact l0 _ _
theorem X_areaM {i_z no_z q_z n_z K_z : Int} {X_z Y F_z : Int → Int} (h_z : ShM T m) (hi_z : 0 ≤ i_z ∧ i_z < 30) (hq : gI T (m + 16) (12 * i_z + 2) = q_z) (q0 : 0 ≤ q_z) (q1_z : q_z < 202) (hn : gI T (m + 14) q_z = n_z) (hK_z : gI T (m + 15) q_z = K_z) (hP : Pol X_z Y F_z n_z) (hX : ∀ i_z, 0 ≤ i_z → i_z < n_z → gI T (m + 11) (24 * q_z + i_z) = X_z i_z) (hY : ∀ i_z, 0 ≤ i_z → i_z < n_z → gI T (m + 12) (24 * q_z + i_z) = Y i_z) (hB_z : PB F_z n_z (fun j_z => gI T (m + 13) (24 * q_z + j_z)) K_z) (hQ : Q (some (a_l (absI (dar X_z Y (nxP F_z n_z) n_z.toNat)))) T) : At G 259 14 [a_r m, a_i i_z, a_i no_z, a_u, a_u, a_u, a_u, a_u, a_u, a_u, a_u, a_u] [] T Q := by
  have dbd := dar_bd hP
  obtain ⟨n0_z, n24_z, hpt⟩ := hP
  have kn_z := PB.le hB_z n0_z
  have hB2 := hB_z
  obtain ⟨k0_z, b1, b2, b3, b4, b5⟩ := hB2
  obtain ⟨Bg, eBg⟩ : ∃ Bg : Int → Int, Bg = fun j_z => gI T (m + 13) (24 * q_z + j_z) := ⟨_, rfl⟩
  have hBg : ∀ j_z, gI T (m + 13) (24 * q_z + j_z) = Bg j_z := fun j_z => by rw [eBg]
  rw [← eBg] at hB_z
  simp only [hBg] at b2 b3 b4 b5
  have inner_z : ∀ j_z : Int, 0 ≤ j_z → j_z < K_z → ∀ e_z : Int, (j_z + 1 < K_z → e_z = Bg (j_z + 1)) → (¬ j_z + 1 < K_z → e_z = n_z) → 
      (∀ u5 u10 u11 : AV, At G 259 186 [a_r m, a_i i_z, a_i no_z, a_i q_z, a_l (dar X_z Y (nxP F_z n_z) e_z.toNat), u5, a_i j_z, a_i (Bg j_z), a_i e_z, a_i e_z, u10, u11] [] T Q) →
      ∀ d_z k_z : Nat, (k_z : Int) + d_z = e_z → Bg j_z ≤ k_z → ∀ u5 u10 u11 : AV, At G 259 99 [a_r m, a_i i_z, a_i no_z, a_i q_z, a_l (dar X_z Y (nxP F_z n_z) k_z), u5, a_i j_z, a_i (Bg j_z), a_i e_z, a_i (k_z : Int), u10, u11] [] T Q := by
    intro j_z j0 j1 e_z e1_z e2_z go_z d_z
    have en : e_z ≤ n_z ∧ Bg j_z < e_z := by
      by_cases c : j_z + 1 < K_z
      · have := b3 (j_z + 1) (by omega) c
        have := b4 j_z j0 c
        have := e1_z c
        omega
      · have := b3 j_z j0 j1
        have := e2_z c
        omega
    induction d_z with
    | zero =>
      intro k_z hk _ u5 u10 u11
      have ek : e_z.toNat = k_z := by omega
      have go2 := go_z u5 u10 u11
      rw [ek, show e_z = (k_z : Int) from by omega] at go2
      rw [show e_z = (k_z : Int) from by omega, B_259_99]
      exact ⟨fun _ => go2, fun w_z => absurd (Int.le_refl _) w_z⟩
    | succ d_z ih_z =>
      intro k_z hk bk u5 u10 u11
      have kn_z : (k_z : Int) < n_z := by omega
      have fe := fsP_eq hB_z (fun i_z i0_z i1_z => (hpt i_z i0_z i1_z).2.2) j0 j1 k_z bk (fun w_z => by have := e1_z w_z; omega) kn_z
      obtain ⟨q1', q2', q3'⟩ := hpt k_z (by omega) kn_z
      have nb := nxP_bd (F_z := F_z) kn_z
      obtain ⟨w1_z, w2_z, -⟩ := hpt (nxP F_z n_z k_z) nb.1 nb.2
      have db := dbd k_z (by omega)
      have x1_z := hX k_z (by omega) kn_z
      have y1 := hY k_z (by omega) kn_z
      have x2_z := hX _ nb.1 nb.2
      have y2 := hY _ nb.1 nb.2
      have m1_z := mul40 (a_z := X_z k_z) (b_z := Y (nxP F_z n_z k_z)) (by omega) (by omega)
      have m2_z := mul40 (a_z := X_z (nxP F_z n_z k_z)) (b_z := Y k_z) (by omega) (by omega)
      have go2 := ih_z (k_z + 1) (by omega) (by omega) a_u (a_i (24 * q_z + (k_z : Int))) (a_i (24 * q_z + nxP F_z n_z k_z))
      rw [show dar X_z Y (nxP F_z n_z) (k_z + 1) = dar X_z Y (nxP F_z n_z) k_z + (X_z k_z * Y (nxP F_z n_z k_z) - X_z (nxP F_z n_z k_z) * Y k_z) from rfl, show ((k_z + 1 : Nat) : Int) = (k_z : Int) + 1 from by omega] at go2
      have nxe : ((k_z : Int) + 1 < e_z → nxP F_z n_z k_z = (k_z : Int) + 1) ∧ (¬ (k_z : Int) + 1 < e_z → nxP F_z n_z k_z = Bg j_z) := by
        constructor
        · intro w_z
          have fz : F_z ((k_z : Int) + 1) = 0 := by
            rcases (hpt ((k_z : Int) + 1) (by omega) (by omega)).2.2 with z_z | z_z
            · exact z_z
            · obtain ⟨i_z, i0_z, i1_z, i2_z⟩ := b5 ((k_z : Int) + 1) (by omega) (by omega) z_z
              by_cases c : i_z ≤ j_z
              · by_cases c2_z : i_z = j_z
                · rw [c2_z] at i2_z
                  omega
                · have := PB.mono2 hB_z i0_z (show i_z < j_z from by omega) j1
                  omega
              · by_cases c2_z : i_z = j_z + 1
                · have := e1_z (by omega)
                  rw [c2_z] at i2_z
                  omega
                · have := PB.mono2 hB_z (show 0 ≤ j_z + 1 from by omega) (show j_z + 1 < i_z from by omega) i1_z
                  have := e1_z (by omega)
                  omega
          exact if_pos ⟨by omega, fz⟩
        · intro w_z
          unfold nxP
          rw [← fe]
          refine if_neg (fun z_z => ?_)
          have ek : e_z = (k_z : Int) + 1 := by omega
          by_cases c : j_z + 1 < K_z
          · have f1_z := (b3 (j_z + 1) (by omega) c).2.2
            rw [← e1_z c, ek] at f1_z
            omega
          · have := e2_z c
            omega
      generalize dar X_z Y (nxP F_z n_z) k_z = s_z at *
      generalize hP1 : X_z k_z * Y (nxP F_z n_z k_z) = P1_z at *
      generalize hP2 : X_z (nxP F_z n_z k_z) * Y k_z = P2_z at *
      rw [B_259_99]
      by_cases c : (k_z : Int) + 1 < e_z
      · rw [nxe.1 c] at hP1 hP2 x2_z y2 go2
        simp (disch := omega) only [B_259_137, h_z.u, x1_z, y1, x2_z, y2, hP1, hP2, inI, inL, isT, kInt, kByt, true_and, and_true, an_t, im_t, im_f, or_true, true_or, true_imp_iff, false_imp_iff, not_true_eq_false, not_false_eq_true, gK_uI, gK_uL, gK_uR, gK_uCI, gK_uCL, gN_uI, gN_uL, gN_uR, gN_uCI, gN_uCL, gR_uI, gR_uL, gR_uCI, gR_uCL, gI_uL, gI_uR, gI_uCL, gL_uI, gL_uR, gL_uCI, gz_uI, gz_uL, gz_uR, gz_uCI, gz_uCL, gs_uI, gs_uL, gs_uR, gs_uCI, gs_uCL, rI_at, rL_at, rR_at, rI_ne, rL_ne, rR_ne, rI_nk, rL_nk, rR_nk, rI_eq, rL_eq, rR_eq, Option.toList_some, Option.toList_none, List.cons_append, List.nil_append, List.append_nil, zc_eq, zc_lt, zc_le, zc_ge, zc_gt]
        all_goals exact go2
      · rw [nxe.2 c] at hP1 hP2 x2_z y2 go2
        simp (disch := omega) only [B_259_135, B_259_137, h_z.u, x1_z, y1, x2_z, y2, hP1, hP2, inI, inL, isT, kInt, kByt, true_and, and_true, an_t, im_t, im_f, or_true, true_or, true_imp_iff, false_imp_iff, not_true_eq_false, not_false_eq_true, gK_uI, gK_uL, gK_uR, gK_uCI, gK_uCL, gN_uI, gN_uL, gN_uR, gN_uCI, gN_uCL, gR_uI, gR_uL, gR_uCI, gR_uCL, gI_uL, gI_uR, gI_uCL, gL_uI, gL_uR, gL_uCI, gz_uI, gz_uL, gz_uR, gz_uCI, gz_uCL, gs_uI, gs_uL, gs_uR, gs_uCI, gs_uCL, rI_at, rL_at, rR_at, rI_ne, rL_ne, rR_ne, rI_nk, rL_nk, rR_nk, rI_eq, rL_eq, rR_eq, Option.toList_some, Option.toList_none, List.cons_append, List.nil_append, List.append_nil, zc_eq, zc_lt, zc_le, zc_ge, zc_gt]
        all_goals exact go2
  have outer_z : ∀ d_z : Nat, ∀ j_z : Int, 0 ≤ j_z → j_z + d_z = K_z → ∀ u5 u7 u8 u9 u10 u11 : AV, ∀ sm_z : Int, (j_z < K_z → sm_z = dar X_z Y (nxP F_z n_z) (Bg j_z).toNat) → (j_z = K_z → sm_z = dar X_z Y (nxP F_z n_z) n_z.toNat) → At G 259 32 [a_r m, a_i i_z, a_i no_z, a_i q_z, a_l sm_z, u5, a_i j_z, u7, u8, u9, u10, u11] [] T Q := by
    intro d_z
    induction d_z with
    | zero =>
      intro j_z j0 jK u5 u7 u8 u9 u10 u11 sm_z _ h2
      have es := h2 (by omega)
      have jk : j_z = K_z := by omega
      subst jk
      rw [← es] at hQ
      have db := dbd n_z.toNat (by omega)
      rw [← es] at db
      have fin_z : At G 259 192 [a_r m, a_i i_z, a_i no_z, a_i q_z, a_l sm_z, u5, a_i j_z, u7, u8, u9, u10, u11] [] T Q := by
        clear h2 es inner_z
        unfold absI at hQ
        by_cases cs : sm_z < 0
        · rw [if_pos cs] at hQ
          simp (disch := omega) only [B_259_192, B_259_207, inI, inL, isT, kInt, kByt, true_and, and_true, an_t, im_t, im_f, or_true, true_or, true_imp_iff, false_imp_iff, not_true_eq_false, not_false_eq_true, gK_uI, gK_uL, gK_uR, gK_uCI, gK_uCL, gN_uI, gN_uL, gN_uR, gN_uCI, gN_uCL, gR_uI, gR_uL, gR_uCI, gR_uCL, gI_uL, gI_uR, gI_uCL, gL_uI, gL_uR, gL_uCI, gz_uI, gz_uL, gz_uR, gz_uCI, gz_uCL, gs_uI, gs_uL, gs_uR, gs_uCI, gs_uCL, rI_at, rL_at, rR_at, rI_ne, rL_ne, rR_ne, rI_nk, rL_nk, rR_nk, rI_eq, rL_eq, rR_eq, Option.toList_some, Option.toList_none, List.cons_append, List.nil_append, List.append_nil, zc_eq, zc_lt, zc_le, zc_ge, zc_gt]
          all_goals exact hQ
        · rw [if_neg cs] at hQ
          simp (disch := omega) only [B_259_192, B_259_205, B_259_207, inI, inL, isT, kInt, kByt, true_and, and_true, an_t, im_t, im_f, or_true, true_or, true_imp_iff, false_imp_iff, not_true_eq_false, not_false_eq_true, gK_uI, gK_uL, gK_uR, gK_uCI, gK_uCL, gN_uI, gN_uL, gN_uR, gN_uCI, gN_uCL, gR_uI, gR_uL, gR_uCI, gR_uCL, gI_uL, gI_uR, gI_uCL, gL_uI, gL_uR, gL_uCI, gz_uI, gz_uL, gz_uR, gz_uCI, gz_uCL, gs_uI, gs_uL, gs_uR, gs_uCI, gs_uCL, rI_at, rL_at, rR_at, rI_ne, rL_ne, rR_ne, rI_nk, rL_nk, rR_nk, rI_eq, rL_eq, rR_eq, Option.toList_some, Option.toList_none, List.cons_append, List.nil_append, List.append_nil, zc_eq, zc_lt, zc_le, zc_ge, zc_gt]
          all_goals exact hQ
      simp (disch := omega) only [B_259_32, h_z.u, hK_z, inI, inL, isT, kInt, kByt, true_and, and_true, an_t, im_t, im_f, or_true, true_or, true_imp_iff, false_imp_iff, not_true_eq_false, not_false_eq_true, gK_uI, gK_uL, gK_uR, gK_uCI, gK_uCL, gN_uI, gN_uL, gN_uR, gN_uCI, gN_uCL, gR_uI, gR_uL, gR_uCI, gR_uCL, gI_uL, gI_uR, gI_uCL, gL_uI, gL_uR, gL_uCI, gz_uI, gz_uL, gz_uR, gz_uCI, gz_uCL, gs_uI, gs_uL, gs_uR, gs_uCI, gs_uCL, rI_at, rL_at, rR_at, rI_ne, rL_ne, rR_ne, rI_nk, rL_nk, rR_nk, rI_eq, rL_eq, rR_eq, Option.toList_some, Option.toList_none, List.cons_append, List.nil_append, List.append_nil, zc_eq, zc_lt, zc_le, zc_ge, zc_gt]
      all_goals exact fin_z
    | succ d_z ih_z =>
      intro j_z j0 jK u5 u7 u8 u9 u10 u11 sm_z h1 _
      have es := h1 (by omega)
      have bj := b3 j_z j0 (by omega)
      rw [es]
      have bk : ((Bg j_z).toNat : Int) = Bg j_z := by omega
      by_cases c : j_z + 1 < K_z
      · have bj2 := b3 (j_z + 1) (by omega) c
        have bl := b4 j_z j0 c
        have go_z := inner_z j_z j0 (by omega) (Bg (j_z + 1)) (fun _ => rfl) (fun w_z => absurd c w_z) (fun v5 v10 v11 => by
          have n1_z := ih_z (j_z + 1) (by omega) (by omega) (killL v5) (a_i (Bg j_z)) (a_i (Bg (j_z + 1))) (a_i (Bg (j_z + 1))) v10 v11 _ (fun _ => rfl) (fun w_z => by omega)
          rw [B_259_186]
          exact ⟨⟨by omega, by omega⟩, n1_z⟩) (Bg (j_z + 1) - Bg j_z).toNat (Bg j_z).toNat (by omega) (by omega) u5 u10 u11
        rw [bk] at go_z
        have g1 := hBg j_z
        have g2 := hBg (j_z + 1)
        rw [show 24 * q_z + (j_z + 1) = 24 * q_z + j_z + 1 from by omega] at g2
        simp (disch := omega) only [B_259_32, h_z.u, hK_z, g1, g2, B_259_93, inI, inL, isT, kInt, kByt, true_and, and_true, an_t, im_t, im_f, or_true, true_or, true_imp_iff, false_imp_iff, not_true_eq_false, not_false_eq_true, gK_uI, gK_uL, gK_uR, gK_uCI, gK_uCL, gN_uI, gN_uL, gN_uR, gN_uCI, gN_uCL, gR_uI, gR_uL, gR_uCI, gR_uCL, gI_uL, gI_uR, gI_uCL, gL_uI, gL_uR, gL_uCI, gz_uI, gz_uL, gz_uR, gz_uCI, gz_uCL, gs_uI, gs_uL, gs_uR, gs_uCI, gs_uCL, rI_at, rL_at, rR_at, rI_ne, rL_ne, rR_ne, rI_nk, rL_nk, rR_nk, rI_eq, rL_eq, rR_eq, Option.toList_some, Option.toList_none, List.cons_append, List.nil_append, List.append_nil, zc_eq, zc_lt, zc_le, zc_ge, zc_gt]
        all_goals exact go_z
      · have go_z := inner_z j_z j0 (by omega) n_z (fun w_z => absurd w_z c) (fun _ => rfl) (fun v5 v10 v11 => by
          have n1_z := ih_z (j_z + 1) (by omega) (by omega) (killL v5) (a_i (Bg j_z)) (a_i n_z) (a_i n_z) v10 v11 (dar X_z Y (nxP F_z n_z) n_z.toNat) (fun w_z => absurd w_z c) (fun _ => rfl)
          rw [B_259_186]
          exact ⟨⟨by omega, by omega⟩, n1_z⟩) (n_z - Bg j_z).toNat (Bg j_z).toNat (by omega) (by omega) u5 u10 u11
        rw [bk] at go_z
        have g1 := hBg j_z
        simp (disch := omega) only [B_259_32, h_z.u, hK_z, hn, g1, B_259_87, B_259_93, inI, inL, isT, kInt, kByt, true_and, and_true, an_t, im_t, im_f, or_true, true_or, true_imp_iff, false_imp_iff, not_true_eq_false, not_false_eq_true, gK_uI, gK_uL, gK_uR, gK_uCI, gK_uCL, gN_uI, gN_uL, gN_uR, gN_uCI, gN_uCL, gR_uI, gR_uL, gR_uCI, gR_uCL, gI_uL, gI_uR, gI_uCL, gL_uI, gL_uR, gL_uCI, gz_uI, gz_uL, gz_uR, gz_uCI, gz_uCL, gs_uI, gs_uL, gs_uR, gs_uCI, gs_uCL, rI_at, rL_at, rR_at, rI_ne, rL_ne, rR_ne, rI_nk, rL_nk, rR_nk, rI_eq, rL_eq, rR_eq, Option.toList_some, Option.toList_none, List.cons_append, List.nil_append, List.append_nil, zc_eq, zc_lt, zc_le, zc_ge, zc_gt]
        all_goals exact go_z
  have o0_z := fun u5 => outer_z K_z.toNat 0 (Int.le_refl _) (by omega) u5 a_u a_u a_u a_u a_u 0 (fun w_z => by
    have := (b2 (by omega)).2
    rw [this]
    rfl) (fun w_z => by
    have : n_z = 0 := by
      by_cases c : 0 < n_z
      · have := (b2 c).1
        omega
      · omega
    rw [this]
    rfl)
  simp (disch := omega) only [B_259_14, h_z.u, hq, inI, inL, isT, kInt, kByt, true_and, and_true, an_t, im_t, im_f, or_true, true_or, true_imp_iff, false_imp_iff, not_true_eq_false, not_false_eq_true, gK_uI, gK_uL, gK_uR, gK_uCI, gK_uCL, gN_uI, gN_uL, gN_uR, gN_uCI, gN_uCL, gR_uI, gR_uL, gR_uCI, gR_uCL, gI_uL, gI_uR, gI_uCL, gL_uI, gL_uR, gL_uCI, gz_uI, gz_uL, gz_uR, gz_uCI, gz_uCL, gs_uI, gs_uL, gs_uR, gs_uCI, gs_uCL, rI_at, rL_at, rR_at, rI_ne, rL_ne, rR_ne, rI_nk, rL_nk, rR_nk, rI_eq, rL_eq, rR_eq, Option.toList_some, Option.toList_none, List.cons_append, List.nil_append, List.append_nil, zc_eq, zc_lt, zc_le, zc_ge, zc_gt]
  all_goals exact o0_z _
/-- both sides answer a call alike, with a long -/
def SameL (G : Env0) (b jx jm : Nat) (as_z : List AV) (M : Mem) : Prop := Call G jx (a_r (b + 1) :: as_z) M (fun r M1_z => ∃ v_z : Int, r = some (a_l v_z) ∧ Call G jm (a_r (b + 193) :: as_z) M1_z (fun r2 M2_z => r2 = some (a_l v_z) ∧ Inv G M2_z b ∧ gz M ≤ gz M2_z ∧ gz M2_z ≤ gz M + 10 ∧ gs M2_z ≤ gs M + 1000))
theorem same_pureL {jx jm : Nat} {as_z : List AV} {v_z : Int} (h_z : Inv G M b) (hx : ∀ Q : Option AV → Mem → Prop, Q (some (a_l v_z)) M → Call G jx (a_r (b + 1) :: as_z) M Q) (hm_z : ∀ Q : Option AV → Mem → Prop, Q (some (a_l v_z)) M → Call G jm (a_r (b + 193) :: as_z) M Q) : SameL G b jx jm as_z M := hx _ ⟨v_z, rfl, hm_z _ ⟨rfl, h_z, Nat.le_refl _, by omega, by omega⟩⟩
theorem s_doubleArea {x_z : Int} (h_z : Inv G M b) : SameL G b J_X_doubleArea J_M_doubleArea [a_i x_z] M := by
  have sX_z := h_z.1.1
  have sM := h_z.ma.1
  have sT := h_z.mo
  have sI : ShIt M (b + 16 + 3) (b + 16 + 4) := h_z.ma.2.2.1
  have sP : ShPa M (b + 16 + 4) := h_z.ma.2.1
  have rf1 := fun qq => X_refused (G := G) (Q := qq) (i_z := x_z) (v_z := 1) sT
  by_cases cx : x_z < 0
  · have e_z : refI x_z 1 (gI M (b + 193) 45) (gI M (b + 193) 35) = -10000001 := if_pos (Or.inl cx)
    rw [e_z] at rf1
    refine same_pureL (v_z := -10000001) h_z (fun Q hq => ?_) (fun Q hq => ?_)
    · simp (disch := omega) only [E_X_doubleArea, B_165_0, inI, inL, isT, kInt, kByt, true_and, and_true, an_t, im_t, im_f, or_true, true_or, true_imp_iff, false_imp_iff, not_true_eq_false, not_false_eq_true, gK_uI, gK_uL, gK_uR, gK_uCI, gK_uCL, gN_uI, gN_uL, gN_uR, gN_uCI, gN_uCL, gR_uI, gR_uL, gR_uCI, gR_uCL, gI_uL, gI_uR, gI_uCL, gL_uI, gL_uR, gL_uCI, gz_uI, gz_uL, gz_uR, gz_uCI, gz_uCL, gs_uI, gs_uL, gs_uR, gs_uCI, gs_uCL, rI_at, rL_at, rR_at, rI_ne, rL_ne, rR_ne, rI_nk, rL_nk, rR_nk, rI_eq, rL_eq, rR_eq, Option.toList_some, Option.toList_none, List.cons_append, List.nil_append, List.append_nil, zc_eq, zc_lt, zc_le, zc_ge, zc_gt]
      all_goals exact hq
    · simp (disch := omega) only [E_M_doubleArea, B_259_0, sT.u, rf1, B_259_6, inI, inL, isT, kInt, kByt, true_and, and_true, an_t, im_t, im_f, or_true, true_or, true_imp_iff, false_imp_iff, not_true_eq_false, not_false_eq_true, gK_uI, gK_uL, gK_uR, gK_uCI, gK_uCL, gN_uI, gN_uL, gN_uR, gN_uCI, gN_uCL, gR_uI, gR_uL, gR_uCI, gR_uCL, gI_uL, gI_uR, gI_uCL, gL_uI, gL_uR, gL_uCI, gz_uI, gz_uL, gz_uR, gz_uCI, gz_uCL, gs_uI, gs_uL, gs_uR, gs_uCI, gs_uCL, rI_at, rL_at, rR_at, rI_ne, rL_ne, rR_ne, rI_nk, rL_nk, rR_nk, rI_eq, rL_eq, rR_eq, Option.toList_some, Option.toList_none, List.cons_append, List.nil_append, List.append_nil, zc_eq, zc_lt, zc_le, zc_ge, zc_gt]
      all_goals exact hq
  · rcases h_z.rn with ⟨r1_z, r2⟩ | ⟨r1_z, r2, rs⟩
    · have e_z : refI x_z 1 (gI M (b + 193) 45) (gI M (b + 193) 35) = -10000002 := by
        unfold refI
        rw [if_neg (by omega), if_pos r2]
      rw [e_z] at rf1
      have mi := fun qq => X_missR (G := G) (Q := qq) (i_z := x_z) sX_z h_z.ma r1_z
      refine same_pureL (v_z := -10000002) h_z (fun Q hq => ?_) (fun Q hq => ?_)
      · simp (disch := omega) only [E_X_doubleArea, B_165_0, B_165_8, sX_z.u, mi, B_165_13, B_165_32, B_165_34, inI, inL, isT, kInt, kByt, true_and, and_true, an_t, im_t, im_f, or_true, true_or, true_imp_iff, false_imp_iff, not_true_eq_false, not_false_eq_true, gK_uI, gK_uL, gK_uR, gK_uCI, gK_uCL, gN_uI, gN_uL, gN_uR, gN_uCI, gN_uCL, gR_uI, gR_uL, gR_uCI, gR_uCL, gI_uL, gI_uR, gI_uCL, gL_uI, gL_uR, gL_uCI, gz_uI, gz_uL, gz_uR, gz_uCI, gz_uCL, gs_uI, gs_uL, gs_uR, gs_uCI, gs_uCL, rI_at, rL_at, rR_at, rI_ne, rL_ne, rR_ne, rI_nk, rL_nk, rR_nk, rI_eq, rL_eq, rR_eq, Option.toList_some, Option.toList_none, List.cons_append, List.nil_append, List.append_nil, zc_eq, zc_lt, zc_le, zc_ge, zc_gt]
        all_goals exact hq
      · simp (disch := omega) only [E_M_doubleArea, B_259_0, sT.u, rf1, B_259_6, inI, inL, isT, kInt, kByt, true_and, and_true, an_t, im_t, im_f, or_true, true_or, true_imp_iff, false_imp_iff, not_true_eq_false, not_false_eq_true, gK_uI, gK_uL, gK_uR, gK_uCI, gK_uCL, gN_uI, gN_uL, gN_uR, gN_uCI, gN_uCL, gR_uI, gR_uL, gR_uCI, gR_uCL, gI_uL, gI_uR, gI_uCL, gL_uI, gL_uR, gL_uCI, gz_uI, gz_uL, gz_uR, gz_uCI, gz_uCL, gs_uI, gs_uL, gs_uR, gs_uCI, gs_uCL, rI_at, rL_at, rR_at, rI_ne, rL_ne, rR_ne, rI_nk, rL_nk, rR_nk, rI_eq, rL_eq, rR_eq, Option.toList_some, Option.toList_none, List.cons_append, List.nil_append, List.append_nil, zc_eq, zc_lt, zc_le, zc_ge, zc_gt]
        all_goals exact hq
    · have n35 := rs.2.1.1
      by_cases ci : x_z < gI M (b + 16 + 3) 8
      · have e_z : refI x_z 1 (gI M (b + 193) 45) (gI M (b + 193) 35) = 0 := by
          unfold refI
          rw [if_neg (by omega), if_neg (by omega), if_pos (by omega)]
        rw [e_z] at rf1
        have mi := fun qq => X_missT (G := G) (Q := qq) (i_z := x_z) sX_z h_z.ma r1_z ci
        have t1_z := rs.2.1.2.2.1
        have hs := fun qq => X_hasT (G := G) (Q := qq) sI (show 0 ≤ x_z from by omega) ci t1_z
        have hp := it_path rs (show 0 ≤ x_z from by omega) ci
        obtain ⟨-, -, -, -, -, -, -, -, ⟨-, -, hE, hL, h33⟩, -⟩ := rs
        have pol := pth_pol hp
        obtain ⟨p0_z, p1_z, q0, q1_z, a0_z, a1_z, a2, a3⟩ := hp
        refine same_pureL (v_z := absI (dar (fun i_z => gI M (b + 16 + 5) (gI M (b + 16 + 8) (gI M (b + 16 + 10) x_z) + i_z)) (fun i_z => gI M (b + 16 + 6) (gI M (b + 16 + 8) (gI M (b + 16 + 10) x_z) + i_z)) (nxP (fun i_z => gI M (b + 16 + 7) (gI M (b + 16 + 8) (gI M (b + 16 + 10) x_z) + i_z)) (gI M (b + 16 + 8) (gI M (b + 16 + 10) x_z + 1) - gI M (b + 16 + 8) (gI M (b + 16 + 10) x_z))) (gI M (b + 16 + 8) (gI M (b + 16 + 10) x_z + 1) - gI M (b + 16 + 8) (gI M (b + 16 + 10) x_z)).toNat)) h_z (fun Q hq => ?_) (fun Q hq => ?_)
        · have go_z : Call G J_Pa_findDoubleArea [a_r (b + 16 + 4), a_i (gI M (b + 16 + 10) x_z)] M (fun r M2_z => At G 166 21 [a_r (b + 16 + 3), a_i x_z] r.toList M2_z (fun r M2_z => At G 165 29 [a_r (b + 1), a_i x_z, a_i 0] r.toList M2_z Q)) := by
            refine X_areaC (a_z := gI M (b + 16 + 8) (gI M (b + 16 + 10) x_z)) (n_z := gI M (b + 16 + 8) (gI M (b + 16 + 10) x_z + 1) - gI M (b + 16 + 8) (gI M (b + 16 + 10) x_z)) sP p0_z p1_z hE rfl ?_ a0_z.1 (by omega) pol (fun i_z _ _ => rfl) (fun i_z _ _ => rfl) (fun i_z _ _ => rfl) a3.2.2.2 ?_
            · show gI M (b + 16 + 8) (gI M (b + 16 + 10) x_z + 1) = _
              omega
            · generalize absI (dar _ _ _ _) = v_z at *
              simp (disch := omega) only [B_166_21, B_166_27, B_165_29, B_165_34, inI, inL, isT, kInt, kByt, true_and, and_true, an_t, im_t, im_f, or_true, true_or, true_imp_iff, false_imp_iff, not_true_eq_false, not_false_eq_true, gK_uI, gK_uL, gK_uR, gK_uCI, gK_uCL, gN_uI, gN_uL, gN_uR, gN_uCI, gN_uCL, gR_uI, gR_uL, gR_uCI, gR_uCL, gI_uL, gI_uR, gI_uCL, gL_uI, gL_uR, gL_uCI, gz_uI, gz_uL, gz_uR, gz_uCI, gz_uCL, gs_uI, gs_uL, gs_uR, gs_uCI, gs_uCL, rI_at, rL_at, rR_at, rI_ne, rL_ne, rR_ne, rI_nk, rL_nk, rR_nk, rI_eq, rL_eq, rR_eq, Option.toList_some, Option.toList_none, List.cons_append, List.nil_append, List.append_nil, zc_eq, zc_lt, zc_le, zc_ge, zc_gt]
              all_goals exact hq
          simp (disch := omega) only [E_X_doubleArea, B_165_0, B_165_8, sX_z.u, mi, B_165_13, not_true_eq_false, sM.u, sI.u, E_It_findDoubleArea, B_166_0, hs, B_166_5, sP.u, inI, inL, isT, kInt, kByt, true_and, and_true, an_t, im_t, im_f, or_true, true_or, true_imp_iff, false_imp_iff, not_true_eq_false, not_false_eq_true, gK_uI, gK_uL, gK_uR, gK_uCI, gK_uCL, gN_uI, gN_uL, gN_uR, gN_uCI, gN_uCL, gR_uI, gR_uL, gR_uCI, gR_uCL, gI_uL, gI_uR, gI_uCL, gL_uI, gL_uR, gL_uCI, gz_uI, gz_uL, gz_uR, gz_uCI, gz_uCL, gs_uI, gs_uL, gs_uR, gs_uCI, gs_uCL, rI_at, rL_at, rR_at, rI_ne, rL_ne, rR_ne, rI_nk, rL_nk, rR_nk, rI_eq, rL_eq, rR_eq, Option.toList_some, Option.toList_none, List.cons_append, List.nil_append, List.append_nil, zc_eq, zc_lt, zc_le, zc_ge, zc_gt]
          all_goals exact go_z
        · have go_z := X_areaM (G := G) (Q := Q) (i_z := x_z) (no_z := 0) sT (by omega) rfl q0 (by omega) a2 rfl pol (fun i_z i0_z i1_z => (a3.2.2.1 i_z i0_z i1_z).1.symm) (fun i_z i0_z i1_z => (a3.2.2.1 i_z i0_z i1_z).2.1.symm) a3.2.2.2 hq
          simp (disch := omega) only [E_M_doubleArea, B_259_0, sT.u, rf1, B_259_6, inI, inL, isT, kInt, kByt, true_and, and_true, an_t, im_t, im_f, or_true, true_or, true_imp_iff, false_imp_iff, not_true_eq_false, not_false_eq_true, gK_uI, gK_uL, gK_uR, gK_uCI, gK_uCL, gN_uI, gN_uL, gN_uR, gN_uCI, gN_uCL, gR_uI, gR_uL, gR_uCI, gR_uCL, gI_uL, gI_uR, gI_uCL, gL_uI, gL_uR, gL_uCI, gz_uI, gz_uL, gz_uR, gz_uCI, gz_uCL, gs_uI, gs_uL, gs_uR, gs_uCI, gs_uCL, rI_at, rL_at, rR_at, rI_ne, rL_ne, rR_ne, rI_nk, rL_nk, rR_nk, rI_eq, rL_eq, rR_eq, Option.toList_some, Option.toList_none, List.cons_append, List.nil_append, List.append_nil, zc_eq, zc_lt, zc_le, zc_ge, zc_gt]
          all_goals exact go_z
      · have e_z : refI x_z 1 (gI M (b + 193) 45) (gI M (b + 193) 35) = -10000009 := by
          unfold refI
          rw [if_neg (by omega), if_neg (by omega), if_neg (by omega)]
        rw [e_z] at rf1
        have mi := fun qq => X_missN (G := G) (Q := qq) (i_z := x_z) sX_z h_z.ma r1_z (by omega)
        refine same_pureL (v_z := -10000009) h_z (fun Q hq => ?_) (fun Q hq => ?_)
        · simp (disch := omega) only [E_X_doubleArea, B_165_0, B_165_8, sX_z.u, mi, B_165_13, B_165_32, B_165_34, inI, inL, isT, kInt, kByt, true_and, and_true, an_t, im_t, im_f, or_true, true_or, true_imp_iff, false_imp_iff, not_true_eq_false, not_false_eq_true, gK_uI, gK_uL, gK_uR, gK_uCI, gK_uCL, gN_uI, gN_uL, gN_uR, gN_uCI, gN_uCL, gR_uI, gR_uL, gR_uCI, gR_uCL, gI_uL, gI_uR, gI_uCL, gL_uI, gL_uR, gL_uCI, gz_uI, gz_uL, gz_uR, gz_uCI, gz_uCL, gs_uI, gs_uL, gs_uR, gs_uCI, gs_uCL, rI_at, rL_at, rR_at, rI_ne, rL_ne, rR_ne, rI_nk, rL_nk, rR_nk, rI_eq, rL_eq, rR_eq, Option.toList_some, Option.toList_none, List.cons_append, List.nil_append, List.append_nil, zc_eq, zc_lt, zc_le, zc_ge, zc_gt]
          all_goals exact hq
        · simp (disch := omega) only [E_M_doubleArea, B_259_0, sT.u, rf1, B_259_6, inI, inL, isT, kInt, kByt, true_and, and_true, an_t, im_t, im_f, or_true, true_or, true_imp_iff, false_imp_iff, not_true_eq_false, not_false_eq_true, gK_uI, gK_uL, gK_uR, gK_uCI, gK_uCL, gN_uI, gN_uL, gN_uR, gN_uCI, gN_uCL, gR_uI, gR_uL, gR_uCI, gR_uCL, gI_uL, gI_uR, gI_uCL, gL_uI, gL_uR, gL_uCI, gz_uI, gz_uL, gz_uR, gz_uCI, gz_uCL, gs_uI, gs_uL, gs_uR, gs_uCI, gs_uCL, rI_at, rL_at, rR_at, rI_ne, rL_ne, rR_ne, rI_nk, rL_nk, rR_nk, rI_eq, rL_eq, rR_eq, Option.toList_some, Option.toList_none, List.cons_append, List.nil_append, List.append_nil, zc_eq, zc_lt, zc_le, zc_ge, zc_gt]
          all_goals exact hq
end DL
