/-! THE PURE PART, part 18: the model reads a text. Own work. -/
/-- the same but for what the model reads with -/
def Fs (m : Nat) (T T' : Mem) : Prop := gK T' = gK T ∧ gN T' = gN T ∧ gR T' = gR T ∧ gL T' = gL T ∧ gz T' = gz T ∧ gs T' = gs T ∧ (∀ r_z : Nat, r_z ≠ m → r_z ≠ m + 4 → r_z ≠ m + 5 → gI T' r_z = gI T r_z) ∧ ∀ k_z : Int, k_z ≤ 4 ∨ k_z = 8 ∨ 13 ≤ k_z → gI T' m k_z = gI T m k_z
theorem Fs.refl (m : Nat) (T : Mem) : Fs m T T := ⟨rfl, rfl, rfl, rfl, rfl, rfl, fun _ _ _ _ => rfl, fun _ _ => rfl⟩
theorem Fs.trans {m : Nat} {T T' T'' : Mem} (h_z : Fs m T T') (h2 : Fs m T' T'') : Fs m T T'' := by
  obtain ⟨a1_z, a2, a3, a4, a5, a6, a7, a8⟩ := h_z
  obtain ⟨b1, b2, b3, b4, b5, b6, b7, b8⟩ := h2
  exact ⟨b1.trans a1_z, b2.trans a2, b3.trans a3, b4.trans a4, b5.trans a5, b6.trans a6, fun r_z q1_z q2_z q3_z => (b7 r_z q1_z q2_z q3_z).trans (a7 r_z q1_z q2_z q3_z), fun k_z q_z => (b8 k_z q_z).trans (a8 k_z q_z)⟩
theorem Fq.fs {m : Nat} {T T' : Mem} (h_z : Fq m T T') : Fs m T T' := by
  obtain ⟨a1_z, a2, a3, a4, a5, a6, a7, a8⟩ := h_z
  exact ⟨a1_z, a2, a3, a4, a5, a6, fun r_z q1_z _ _ => a7 r_z q1_z, fun k_z q_z => a8 k_z (by omega) (by omega) (by omega)⟩
theorem Fa.fs {m : Nat} {T T' : Mem} (h_z : Fa m T T') : Fs m T T' := by
  obtain ⟨a1_z, a2, a3, a4, a5, a6, a7, a8⟩ := h_z
  exact ⟨a1_z, a2, a3, a4, a5, a6, fun r_z q1_z q2_z _ => a7 r_z q1_z q2_z, fun k_z q_z => a8 k_z (by omega) (by omega) (by omega) (by omega)⟩
theorem Fs.uI5 {m : Nat} {T T' : Mem} (h_z : Fs m T T') (k_z v_z : Int) : Fs m T (uI T' (m + 5) k_z v_z) := by
  obtain ⟨a1_z, a2, a3, a4, a5, a6, a7, a8⟩ := h_z
  exact ⟨a1_z, a2, a3, a4, a5, a6, fun r_z q1_z q2_z q3_z => by rw [rI_ne q3_z]; exact a7 r_z q1_z q2_z q3_z, fun j_z q_z => by rw [rI_ne (by omega)]; exact a8 j_z q_z⟩
theorem RdM.fs {m : Nat} {T T' : Mem} {t : Int → Int} {L : Int} (h_z : RdM T m t L) (f_z : Fs m T T') : RdM T' m t L := by
  obtain ⟨h1, h2, h3, h4, h5⟩ := h_z
  obtain ⟨a1_z, a2, a3, a4, a5, a6, a7, a8⟩ := f_z
  refine ⟨?_, by rw [a8 4 (by decide)]; exact h2, h3, h4, fun i_z i0_z i1_z => by rw [a7 _ (by omega) (by omega) (by omega)]; exact h5 i_z i0_z i1_z⟩
  unfold ShM ShMx
  rw [a1_z, a2, a3]
  exact h1
theorem StM.fq {m : Nat} {T T' : Mem} {s_z : Stk × Bool} {pa mq : Int} (h_z : StM T m s_z pa mq) (f_z : Fq m T T') : StM T' m s_z pa mq := by
  obtain ⟨a1_z, a2, a3, a4, a5, a6, a7, a8⟩ := f_z
  unfold StM
  rw [a7 (m + 4) (by omega), a8 9 (by decide) (by decide) (by decide), a8 10 (by decide) (by decide) (by decide), a8 11 (by decide) (by decide) (by decide), a8 12 (by decide) (by decide) (by decide)]
  exact h_z
section EP
variable {G : Env0} {Q : Option AV → Mem → Prop} {T : Mem} {m : Nat} {t : Int → Int} {L : Int}
theorem X_msLoop {g_z : Int} (ht : ∀ i_z, 0 ≤ i_z → i_z < L → 1 ≤ t i_z ∧ t i_z ≤ 255) : ∀ (d_z : Nat) (T : Mem) (n_z : Nat) (cd : Nat → Int) (x_z y_z pa mq : Int), RdM T m t L → StM T m (scan cd n_z) pa mq → (pa = 0 ∨ pa = 1) → (mq = 0 ∨ mq = 1) → ((scan cd n_z).2 = false → mq = 0) → (∀ k_z, k_z < n_z → legal (cd k_z) (scan cd k_z)) → Jn t L n_z x_z → gI T m 6 = y_z → 0 ≤ y_z → y_z ≤ L → skE t L y_z = x_z → (∀ k_z : Nat, k_z < n_z → gI T (m + 5) (k_z : Int) = cd k_z) → L - x_z < d_z → (∀ e_z n' cd', rdT t L d_z n_z cd x_z pa mq = (e_z, n', cd') → ∀ T', Fs m T T' → (¬ e_z = -1 → Q (some (a_i (-10 - e_z))) T') ∧ (e_z = -1 → (∀ k_z : Nat, k_z < n' → gI T' (m + 5) (k_z : Int) = cd' k_z) → At G 172 106 [a_r m, a_i g_z, a_i (n' : Int), a_u, a_u] [] T' Q)) → At G 172 39 [a_r m, a_i g_z, a_i (n_z : Int), a_u, a_u] [] T Q := by
  intro d_z
  induction d_z with
  | zero =>
    intro T n_z cd x_z y_z pa mq h_z _ _ _ _ _ _ _ y0 y1 hx _ hd_z _
    have := skE_bd (t_z := t) y1
    omega
  | succ d_z ih_z =>
    intro T n_z cd x_z y_z pa mq h_z st_z pb mb pm hl hj h6 y0 y1 hx hk hd_z hQ
    have L1 := h_z.2.2.2.1
    have xb := skE_bd (t_z := t) y1
    rw [hx] at xb
    have n107 : n_z ≤ 107 := by
      unfold Jn at hj
      omega
    obtain ⟨hh, b6, b3⟩ := hst hl n_z (Nat.le_refl n_z)
    have go_z : Call G J_M_isRead [a_r m] T (fun r_z M2_z => At G 172 43 [a_r m, a_i g_z, a_i (n_z : Int), a_u, a_u] r_z.toList M2_z Q) := by
      refine X_isRead h_z h6 y0 y1 hx ht (fun c1_z T1 f1_z => ?_) (fun c1_z T1 f1_z e5_z e6_z e7_z => ?_)
      · have eqn := rdT_end (t_z := t) (d_z := d_z) (n_z := n_z) (cd := cd) (pa := pa) (mq := mq) c1_z
        obtain ⟨sm_z, h4, -, -, -⟩ := h_z.fq f1_z
        obtain ⟨s1_z, s2_z, s3_z, s4_z⟩ := st_z.fq f1_z
        have hk1 : ∀ k_z : Nat, k_z < n_z → gI T1 (m + 5) (k_z : Int) = cd k_z := fun k_z hk' => by
          rw [f1_z.2.2.2.2.2.2.1 _ (by omega)]
          exact hk k_z hk'
        generalize hs : scan cd n_z = s_z at *
        obtain ⟨S_z, p_z⟩ := s_z
        cases S_z with
        | nil =>
          have z1 : gI T1 m 9 = 0 := s1_z
          cases p_z with
          | false =>
            have z2 : gI T1 m 10 = 0 := s2_z
            rw [if_pos rfl] at eqn
            have g_z := (hQ _ _ _ eqn T1 f1_z.fs).2 rfl hk1
            simp (disch := omega) only [B_172_43, B_172_84, sm_z.u, z1, z2, inI, inL, isT, kInt, kByt, true_and, and_true, an_t, im_t, im_f, or_true, true_or, true_imp_iff, false_imp_iff, not_true_eq_false, not_false_eq_true, gK_uI, gK_uL, gK_uR, gK_uCI, gK_uCL, gN_uI, gN_uL, gN_uR, gN_uCI, gN_uCL, gR_uI, gR_uL, gR_uCI, gR_uCL, gI_uL, gI_uR, gI_uCL, gL_uI, gL_uR, gL_uCI, gz_uI, gz_uL, gz_uR, gz_uCI, gz_uCL, gs_uI, gs_uL, gs_uR, gs_uCI, gs_uCL, rI_at, rL_at, rR_at, rI_ne, rL_ne, rR_ne, rI_nk, rL_nk, rR_nk, rI_eq, rL_eq, rR_eq, Option.toList_some, Option.toList_none, List.cons_append, List.nil_append, List.append_nil, zc_eq, zc_lt, zc_le, zc_ge, zc_gt]
            all_goals exact g_z
          | true =>
            have z2 : gI T1 m 10 = 1 := s2_z
            rw [if_neg (by decide)] at eqn
            have g_z := (hQ _ _ _ eqn T1 f1_z.fs).1 (by omega)
            simp (disch := omega) only [B_172_43, B_172_84, sm_z.u, z1, z2, B_172_98, h4, inI, inL, isT, kInt, kByt, true_and, and_true, an_t, im_t, im_f, or_true, true_or, true_imp_iff, false_imp_iff, not_true_eq_false, not_false_eq_true, gK_uI, gK_uL, gK_uR, gK_uCI, gK_uCL, gN_uI, gN_uL, gN_uR, gN_uCI, gN_uCL, gR_uI, gR_uL, gR_uCI, gR_uCL, gI_uL, gI_uR, gI_uCL, gL_uI, gL_uR, gL_uCI, gz_uI, gz_uL, gz_uR, gz_uCI, gz_uCL, gs_uI, gs_uL, gs_uR, gs_uCI, gs_uCL, rI_at, rL_at, rR_at, rI_ne, rL_ne, rR_ne, rI_nk, rL_nk, rR_nk, rI_eq, rL_eq, rR_eq, Option.toList_some, Option.toList_none, List.cons_append, List.nil_append, List.append_nil, zc_eq, zc_lt, zc_le, zc_ge, zc_gt]
            all_goals exact g_z
        | cons a_z S_z =>
          have z1 : gI T1 m 9 = (S_z.length : Int) + 1 := by
            rw [s1_z]
            show ((S_z.length + 1 : Nat) : Int) = _
            omega
          rw [if_neg (by intro q_z; injection q_z with q1 q2; cases q1)] at eqn
          have g_z := (hQ _ _ _ eqn T1 f1_z.fs).1 (by omega)
          simp (disch := omega) only [B_172_43, B_172_84, sm_z.u, z1, B_172_98, h4, inI, inL, isT, kInt, kByt, true_and, and_true, an_t, im_t, im_f, or_true, true_or, true_imp_iff, false_imp_iff, not_true_eq_false, not_false_eq_true, gK_uI, gK_uL, gK_uR, gK_uCI, gK_uCL, gN_uI, gN_uL, gN_uR, gN_uCI, gN_uCL, gR_uI, gR_uL, gR_uCI, gR_uCL, gI_uL, gI_uR, gI_uCL, gL_uI, gL_uR, gL_uCI, gz_uI, gz_uL, gz_uR, gz_uCI, gz_uCL, gs_uI, gs_uL, gs_uR, gs_uCI, gs_uCL, rI_at, rL_at, rR_at, rI_ne, rL_ne, rR_ne, rI_nk, rL_nk, rR_nk, rI_eq, rL_eq, rR_eq, Option.toList_some, Option.toList_none, List.cons_append, List.nil_append, List.append_nil, zc_eq, zc_lt, zc_le, zc_ge, zc_gt]
          all_goals exact g_z
      · have c1' : ¬ L ≤ x_z := by omega
        have eb := tkE_bd (t := t) (show 0 ≤ x_z by omega) c1_z
        obtain ⟨sm_z, h4, -, -, -⟩ := h_z.fq f1_z
        by_cases c2_z : tkC t L x_z < 0
        · have eqn := rdT_bad (d_z := d_z) (n_z := n_z) (cd := cd) (pa := pa) (mq := mq) c1' (Or.inl c2_z)
          have g_z := (hQ _ _ _ eqn T1 f1_z.fs).1 (by omega)
          simp (disch := omega) only [B_172_43, sm_z.u, e7_z, B_172_60, e5_z, inI, inL, isT, kInt, kByt, true_and, and_true, an_t, im_t, im_f, or_true, true_or, true_imp_iff, false_imp_iff, not_true_eq_false, not_false_eq_true, gK_uI, gK_uL, gK_uR, gK_uCI, gK_uCL, gN_uI, gN_uL, gN_uR, gN_uCI, gN_uCL, gR_uI, gR_uL, gR_uCI, gR_uCL, gI_uL, gI_uR, gI_uCL, gL_uI, gL_uR, gL_uCI, gz_uI, gz_uL, gz_uR, gz_uCI, gz_uCL, gs_uI, gs_uL, gs_uR, gs_uCI, gs_uCL, rI_at, rL_at, rR_at, rI_ne, rL_ne, rR_ne, rI_nk, rL_nk, rR_nk, rI_eq, rL_eq, rR_eq, Option.toList_some, Option.toList_none, List.cons_append, List.nil_append, List.append_nil, zc_eq, zc_lt, zc_le, zc_ge, zc_gt]
          all_goals exact g_z
        · have kd := tkC_kind t L x_z
          have g1 : Call G J_M_isAllowed [a_r m] T1 (fun r_z M2_z => At G 172 57 [a_r m, a_i g_z, a_i (n_z : Int), a_u, a_u] r_z.toList M2_z Q) := by
            refine X_isAllowed (n_z := n_z) sm_z e7_z (by omega) (st_z.fq f1_z) b6 b3 pm pb mb (fun hb_z T2 f2_z => ?_) (fun ha_z T2 f2_z st2_z => ?_)
            · have eqn := rdT_bad (d_z := d_z) c1' (Or.inr hb_z)
              have g_z := (hQ _ _ _ eqn T2 (f1_z.fs.trans f2_z.fs)).1 (by omega)
              have sm2 := ((h_z.fq f1_z).fs f2_z.fs).1
              have e5' : gI T2 m 5 = x_z := by
                rw [f2_z.2.2.2.2.2.2.2 5 (by decide) (by decide) (by decide) (by decide)]
                exact e5_z
              simp (disch := omega) only [B_172_57, not_true_eq_false, B_172_60, sm2.u, e5', inI, inL, isT, kInt, kByt, true_and, and_true, an_t, im_t, im_f, or_true, true_or, true_imp_iff, false_imp_iff, not_true_eq_false, not_false_eq_true, gK_uI, gK_uL, gK_uR, gK_uCI, gK_uCL, gN_uI, gN_uL, gN_uR, gN_uCI, gN_uCL, gR_uI, gR_uL, gR_uCI, gR_uCL, gI_uL, gI_uR, gI_uCL, gL_uI, gL_uR, gL_uCI, gz_uI, gz_uL, gz_uR, gz_uCI, gz_uCL, gs_uI, gs_uL, gs_uR, gs_uCI, gs_uCL, rI_at, rL_at, rR_at, rI_ne, rL_ne, rR_ne, rI_nk, rL_nk, rR_nk, rI_eq, rL_eq, rR_eq, Option.toList_some, Option.toList_none, List.cons_append, List.nil_append, List.append_nil, zc_eq, zc_lt, zc_le, zc_ge, zc_gt]
              all_goals exact g_z
            · have eqn := rdT_good (d_z := d_z) c1' (by omega) ha_z
              have rd2 := (h_z.fq f1_z).fs f2_z.fs
              have sm2 := rd2.1
              have e6' : gI T2 m 6 = tkE t L x_z := by
                rw [f2_z.2.2.2.2.2.2.2 6 (by decide) (by decide) (by decide) (by decide)]
                exact e6_z
              have e7' : gI T2 m 7 = tkC t L x_z := by
                rw [f2_z.2.2.2.2.2.2.2 7 (by decide) (by decide) (by decide) (by decide)]
                exact e7_z
              have f3_z : Fs m T (uI T2 (m + 5) (n_z : Int) (tkC t L x_z)) := (f1_z.fs.trans f2_z.fs).uI5 _ _
              have g_z := ih_z (uI T2 (m + 5) (n_z : Int) (tkC t L x_z)) (n_z + 1) (updC cd n_z (tkC t L x_z)) (skE t L (tkE t L x_z)) (tkE t L x_z) (npa (tkC t L x_z) pa) (nmk (tkC t L x_z) mq) (h_z.fs f3_z) (by
                rw [updC_next]
                obtain ⟨z1, z2, z3, z4⟩ := st2_z
                exact ⟨by rw [rI_ne (by omega)]; exact z1, by rw [rI_ne (by omega)]; exact z2, by rw [rI_ne (by omega)]; exact z3, by rw [rI_ne (by omega)]; exact z4⟩) (npa_bit pb) (nmk_bit mb) (by
                rw [updC_next]
                exact nmk_pm ha_z pm) (fun k_z hk' => by
                by_cases c5_z : k_z = n_z
                · rw [c5_z, updC_at, updC_scan (Nat.le_refl n_z)]
                  exact ha_z.legal
                · rw [updC_lt (by omega), updC_scan (by omega)]
                  exact hl k_z (by omega)) (hj.step (by omega) c1_z (by omega)) (by rw [rI_ne (by omega)]; exact e6') (by omega) eb.2 rfl (fun k_z hk' => by
                by_cases c5_z : k_z = n_z
                · rw [c5_z, updC_at, rI_at]
                · rw [updC_lt (by omega), rI_nk (by omega), f2_z.2.2.2.2.2.2.1 _ (by omega) (by omega), f1_z.2.2.2.2.2.2.1 _ (by omega)]
                  exact hk k_z (by omega)) (by
                have := skE_bd (t_z := t) (L_z := L) (x_z := tkE t L x_z) eb.2
                omega) (fun e_z n' cd' he T' f4_z => hQ e_z n' cd' (by rw [eqn]; exact he) T' (f3_z.trans f4_z))
              rw [show ((n_z + 1 : Nat) : Int) = (n_z : Int) + 1 from by omega] at g_z
              clear hQ ih_z
              generalize tkC t L x_z = w_z at *
              simp (disch := omega) only [B_172_57, B_172_68, sm2.u, e7', inI, inL, isT, kInt, kByt, true_and, and_true, an_t, im_t, im_f, or_true, true_or, true_imp_iff, false_imp_iff, not_true_eq_false, not_false_eq_true, gK_uI, gK_uL, gK_uR, gK_uCI, gK_uCL, gN_uI, gN_uL, gN_uR, gN_uCI, gN_uCL, gR_uI, gR_uL, gR_uCI, gR_uCL, gI_uL, gI_uR, gI_uCL, gL_uI, gL_uR, gL_uCI, gz_uI, gz_uL, gz_uR, gz_uCI, gz_uCL, gs_uI, gs_uL, gs_uR, gs_uCI, gs_uCL, rI_at, rL_at, rR_at, rI_ne, rL_ne, rR_ne, rI_nk, rL_nk, rR_nk, rI_eq, rL_eq, rR_eq, Option.toList_some, Option.toList_none, List.cons_append, List.nil_append, List.append_nil, zc_eq, zc_lt, zc_le, zc_ge, zc_gt]
              all_goals exact g_z
          clear hQ ih_z
          generalize tkC t L x_z = w_z at *
          simp (disch := omega) only [B_172_43, sm_z.u, e7_z, inI, inL, isT, kInt, kByt, true_and, and_true, an_t, im_t, im_f, or_true, true_or, true_imp_iff, false_imp_iff, not_true_eq_false, not_false_eq_true, gK_uI, gK_uL, gK_uR, gK_uCI, gK_uCL, gN_uI, gN_uL, gN_uR, gN_uCI, gN_uCL, gR_uI, gR_uL, gR_uCI, gR_uCL, gI_uL, gI_uR, gI_uCL, gL_uI, gL_uR, gL_uCI, gz_uI, gz_uL, gz_uR, gz_uCI, gz_uCL, gs_uI, gs_uL, gs_uR, gs_uCI, gs_uCL, rI_at, rL_at, rR_at, rI_ne, rL_ne, rR_ne, rI_nk, rL_nk, rR_nk, rI_eq, rL_eq, rR_eq, Option.toList_some, Option.toList_none, List.cons_append, List.nil_append, List.append_nil, zc_eq, zc_lt, zc_le, zc_ge, zc_gt]
          all_goals exact g1
    have sm0 := h_z.1
    rw [B_172_39]
    simp only [Option.toList_some, Option.toList_none, List.cons_append, List.nil_append, List.append_nil]
    exact ⟨sm0.u.1, go_z⟩
end EP
