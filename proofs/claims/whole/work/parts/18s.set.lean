/-! THE PURE PART, part 18: setStream. Own work. -/
/-- the row behind a new stream, when j_z of its codes are there -/
def rwS (f_z : Int → Int) (pl : Int) (n_z : Nat) (cd : Nat → Int) (j_z : Int) : Int → Int := fun i_z => if i_z = pl then (n_z : Int) else if pl < i_z ∧ i_z ≤ pl + j_z then cd (i_z - pl - 1).toNat else f_z i_z
theorem rwS_out {f_z : Int → Int} {pl j_z i_z : Int} {n_z : Nat} {cd : Nat → Int} (h_z : i_z < pl ∨ pl + j_z < i_z) (hj : 0 ≤ j_z) : rwS f_z pl n_z cd j_z i_z = f_z i_z := by
  unfold rwS
  rw [if_neg (by omega), if_neg (by omega)]
theorem rwS_at {f_z : Int → Int} {pl j_z : Int} {n_z : Nat} {cd : Nat → Int} : rwS f_z pl n_z cd j_z pl = (n_z : Int) := if_pos rfl
theorem rwS_in {f_z : Int → Int} {pl j_z : Int} {n_z k_z : Nat} {cd : Nat → Int} (h_z : (k_z : Int) < j_z) : rwS f_z pl n_z cd j_z (pl + 1 + (k_z : Int)) = cd k_z := by
  unfold rwS
  rw [if_neg (by omega), if_pos (by omega), show (pl + 1 + (k_z : Int) - pl - 1).toNat = k_z from by omega]
theorem rwS_step {f_z : Int → Int} {pl : Int} {n_z k_z : Nat} {cd : Nat → Int} : upf (rwS f_z pl n_z cd (k_z : Int)) (pl + 1 + (k_z : Int)) (cd k_z) = rwS f_z pl n_z cd ((k_z : Int) + 1) := by
  funext i
  unfold upf
  by_cases c_z : i = pl + 1 + (k_z : Int)
  · rw [if_pos c_z, c_z, rwS_in (by omega)]
  · rw [if_neg c_z]
    unfold rwS
    by_cases c1_z : i = pl
    · rw [if_pos c1_z, if_pos c1_z]
    · rw [if_neg c1_z, if_neg c1_z]
      by_cases c2_z : pl < i ∧ i ≤ pl + (k_z : Int)
      · rw [if_pos c2_z, if_pos (by omega)]
      · rw [if_neg c2_z, if_neg (by omega)]
theorem rwS_0 {f_z : Int → Int} {pl : Int} {n_z : Nat} {cd : Nat → Int} : upf f_z pl (n_z : Int) = rwS f_z pl n_z cd 0 := by
  funext i
  unfold upf rwS
  by_cases c_z : i = pl
  · rw [if_pos c_z, if_pos c_z]
  · rw [if_neg c_z, if_neg c_z, if_neg (by omega)]
theorem Fs.wI {m : Nat} {T T' : Mem} (h_z : Fs m T T') (k_z v_z : Int) (hk : 5 ≤ k_z ∧ k_z ≤ 12 ∧ k_z ≠ 8) : Fs m T (uI T' m k_z v_z) := by
  obtain ⟨a1_z, a2, a3, a4, a5, a6, a7, a8⟩ := h_z
  exact ⟨a1_z, a2, a3, a4, a5, a6, fun r_z q1_z q2_z q3_z => by rw [rI_ne q1_z]; exact a7 r_z q1_z q2_z q3_z, fun j_z q_z => by rw [rI_nk (by omega)]; exact a8 j_z q_z⟩
section ES
variable {G : Env0} {Q : Option AV → Mem → Prop} {M T : Mem} {b m : Nat}
/-- the model, up to the end of the text -/
theorem X_msA {x_z e_z tl : Int} {n_z n' : Nat} {f_z tx : Int → Int} {ps_z : Nat → Int → Int} {cd' : Nat → Int} (h_z : MoI T m n_z f_z ps_z tl tx) (cx : -1 ≤ x_z ∧ x_z ≤ 5) (l0 : 0 ≤ tl) (l1 : tl ≤ 160) (ht : ∀ i_z, 0 ≤ i_z → i_z < tl → 1 ≤ tx i_z ∧ tx i_z ≤ 255) (hr : rdR tx tl = (e_z, n', cd')) (hB_z : ¬ e_z = -1 → ∀ T', Fs m T T' → Q (some (a_i (-10 - e_z))) T') (hG : e_z = -1 → ∀ T', Fs m T T' → (∀ k_z : Nat, k_z < n' → gI T' (m + 5) (k_z : Int) = cd' k_z) → At G 172 106 [a_r m, a_i x_z, a_i (n' : Int), a_u, a_u] [] T' Q) : Call G J_M_setStream [a_r m, a_i x_z] T Q := by
  obtain ⟨h1, h2, h3, h4, h5, h6⟩ := h_z
  have rd_z : RdM T m tx tl := ⟨h1, h5, l0, l1, h6⟩
  have f1_z : Fs m T (uI (uI (uI (uI (uI T m 6 0) m 9 0) m 10 0) m 11 0) m 12 0) := (((((Fs.refl m T).wI 6 0 (by decide)).wI 9 0 (by decide)).wI 10 0 (by decide)).wI 11 0 (by decide)).wI 12 0 (by decide)
  have st_z : StM (uI (uI (uI (uI (uI T m 6 0) m 9 0) m 10 0) m 11 0) m 12 0) m ([], false) 0 0 := by
    refine ⟨?_, ?_, fun q_z => absurd (show false = true from q_z) (by decide), trivial⟩
    · rw [rI_nk (by decide), rI_nk (by decide), rI_nk (by decide), rI_at]
      rfl
    · rw [rI_nk (by decide), rI_nk (by decide), rI_at]
      rfl
  have sb_z := skE_bd (t_z := tx) (L_z := tl) (x_z := 0) l0
  have go_z := X_msLoop (G := G) (Q := Q) (g_z := x_z) ht 200 (uI (uI (uI (uI (uI T m 6 0) m 9 0) m 10 0) m 11 0) m 12 0) 0 (fun _ => 0) (skE tx tl 0) 0 0 0 (rd_z.fs f1_z) st_z (Or.inl rfl) (Or.inl rfl) (fun _ => rfl) (fun k_z hk => absurd hk (by omega)) (Or.inl (by omega)) (by rw [rI_nk (by decide), rI_nk (by decide), rI_nk (by decide), rI_nk (by decide), rI_at]) (by decide) l0 rfl (fun k_z hk => absurd hk (by omega)) (by omega) (fun e2_z n2_z cd2 he T' f2_z => by
    have he' : rdR tx tl = (e2_z, n2_z, cd2) := he
    rw [hr] at he'
    injection he' with z1 z2
    injection z2 with z2 z3
    subst z1
    subst z2
    subst z3
    exact ⟨fun q_z => hB_z q_z T' (f1_z.trans f2_z), fun q_z => hG q_z T' (f1_z.trans f2_z)⟩)
  have b3 := fun qq => Y_inT (G := G) (Q := qq) (M := T) (x_z := x_z) (y_z := -1) (w_z := 5) cx
  have h1u := h1.u
  clear hB_z hG
  simp (disch := omega) only [E_M_setStream, B_172_0, b3, B_172_6, B_172_12, h1.u, B_172_22, B_172_32, inI, inL, isT, kInt, kByt, true_and, and_true, an_t, im_t, im_f, or_true, true_or, true_imp_iff, false_imp_iff, not_true_eq_false, not_false_eq_true, gK_uI, gK_uL, gK_uR, gK_uCI, gK_uCL, gN_uI, gN_uL, gN_uR, gN_uCI, gN_uCL, gR_uI, gR_uL, gR_uCI, gR_uCL, gI_uL, gI_uR, gI_uCL, gL_uI, gL_uR, gL_uCI, gz_uI, gz_uL, gz_uR, gz_uCI, gz_uCL, gs_uI, gs_uL, gs_uR, gs_uCI, gs_uCL, rI_at, rL_at, rR_at, rI_ne, rL_ne, rR_ne, rI_nk, rL_nk, rR_nk, rI_eq, rL_eq, rR_eq, Option.toList_some, Option.toList_none, List.cons_append, List.nil_append, List.append_nil, zc_eq, zc_lt, zc_le, zc_ge, zc_gt]
  all_goals exact go_z
/-- the model, behind it -/
theorem X_msB {x_z tl : Int} {n_z n' : Nat} {f_z tx : Int → Int} {ps_z : Nat → Int → Int} {cd' : Nat → Int} (h_z : MoI T m n_z f_z ps_z tl tx) (n6_z : n_z ≤ 6) (cx : -1 ≤ x_z ∧ x_z ≤ 5) (n1_z : n' ≤ 107) (ht : ∀ k_z : Nat, k_z < n' → gI T (m + 5) (k_z : Int) = cd' k_z) (hQ : ∀ T', Ex (fun r_z => r_z = m ∨ r_z = m + 1 ∨ r_z = m + 2) T T' → (∀ j_z, j_z ≠ 2 → j_z ≠ 4 → gI T' m j_z = gI T m j_z) → MoI T' m (svN n_z) (rwS f_z (161 * (x_z + 1)) n' cd' (n' : Int)) (svP n_z ps_z f_z) 0 tx → Q (some (a_i (n' : Int))) T') : At G 172 106 [a_r m, a_i x_z, a_i (n' : Int), a_u, a_u] [] T Q := by
  have sv : Call G J_M_save [a_r m] T (fun r_z M2_z => At G 172 110 [a_r m, a_i x_z, a_i (n' : Int), a_u, a_u] r_z.toList M2_z Q) := by
    refine X_Msave h_z n6_z (fun T1 o1 e1_z hM1 => ?_)
    obtain ⟨a1_z, a2, a3, a4, a5, a6⟩ := hM1
    have t1_z : ∀ k_z : Nat, k_z < n' → gI T1 (m + 5) (k_z : Int) = cd' k_z := fun k_z hk => by
      rw [(o1.2.2.2.2.2 (m + 5) (by omega)).1]
      exact ht k_z hk
    have loop_z : ∀ (d_z k_z : Nat), k_z + d_z = n' → ∀ T2, Ex (fun r_z => r_z = m + 1) T1 T2 → gI T2 (m + 1) = rwS f_z (161 * (x_z + 1)) n' cd' (k_z : Int) → At G 172 130 [a_r m, a_i x_z, a_i (n' : Int), a_i (0 + 161 * (x_z + 1)), a_i (k_z : Int)] [] T2 Q := by
      intro d_z
      induction d_z with
      | zero =>
        intro k_z hk T2 o2 e2_z
        have ek : k_z = n' := by omega
        subst ek
        have sm2 : ShM T2 m := Ex.sh o2 a1_z
        have row_z : ∀ a_z, a_z ≠ m + 1 → gI T2 a_z = gI T1 a_z := fun a_z ha_z => (o2.2.2.2.2.2 a_z ha_z).1
        have g_z := hQ (uI T2 m 4 0) (Ex.uI (Ex.trans (o1.mono (fun a_z q_z => by omega)) (o2.mono (fun a_z q_z => by omega))) 4 0 (Or.inl rfl)) (fun j_z j1 j2_z => by rw [rI_nk j2_z, row_z m (by omega)]; exact e1_z j_z j1) ⟨sm2, by rw [rI_nk (by decide), row_z m (by omega)]; exact a2, by rw [rI_ne (by omega)]; exact e2_z, fun i_z hi_z k_z k0_z k1_z => by rw [rI_ne (by omega), row_z (m + 2) (by omega)]; exact a4 i_z hi_z k_z k0_z k1_z, rI_at, fun i_z i0_z i1_z => by omega⟩
        rw [B_172_130]
        refine ⟨fun _ => ?_, fun w_z => absurd (Int.le_refl _) w_z⟩
        rw [B_172_160]
        exact ⟨sm2.u.1, trivial, g_z⟩
      | succ d_z ih_z =>
        intro k_z hk T2 o2 e2_z
        have sm2 : ShM T2 m := Ex.sh o2 a1_z
        have row_z : ∀ a_z, a_z ≠ m + 1 → gI T2 a_z = gI T1 a_z := fun a_z ha_z => (o2.2.2.2.2.2 a_z ha_z).1
        have tk : gI T2 (m + 5) (k_z : Int) = cd' k_z := by
          rw [row_z _ (by omega)]
          exact t1_z k_z (by omega)
        have g_z := ih_z (k_z + 1) (by omega) (uI T2 (m + 1) (161 * (x_z + 1) + 1 + (k_z : Int)) (cd' k_z)) (o2.uI _ _ rfl) (by
          rw [rI_row, e2_z, rwS_step]
          rfl)
        rw [show ((k_z + 1 : Nat) : Int) = (k_z : Int) + 1 from by omega] at g_z
        have z0 : 0 + 161 * (x_z + 1) + 1 + (k_z : Int) = 161 * (x_z + 1) + 1 + (k_z : Int) := by omega
        rw [B_172_130]
        generalize cd' k_z = w_z at *
        simp (disch := omega) only [sm2.u, z0, tk, inI, inL, isT, kInt, kByt, true_and, and_true, an_t, im_t, im_f, or_true, true_or, true_imp_iff, false_imp_iff, not_true_eq_false, not_false_eq_true, gK_uI, gK_uL, gK_uR, gK_uCI, gK_uCL, gN_uI, gN_uL, gN_uR, gN_uCI, gN_uCL, gR_uI, gR_uL, gR_uCI, gR_uCL, gI_uL, gI_uR, gI_uCL, gL_uI, gL_uR, gL_uCI, gz_uI, gz_uL, gz_uR, gz_uCI, gz_uCL, gs_uI, gs_uL, gs_uR, gs_uCI, gs_uCL, rI_at, rL_at, rR_at, rI_ne, rL_ne, rR_ne, rI_nk, rL_nk, rR_nk, rI_eq, rL_eq, rR_eq, Option.toList_some, Option.toList_none, List.cons_append, List.nil_append, List.append_nil, zc_eq, zc_lt, zc_le, zc_ge, zc_gt]
        all_goals exact g_z
    have g0 := loop_z n' 0 (by omega) (uI T1 (m + 1) (161 * (x_z + 1)) (n' : Int)) ((Ex.refl _ _).uI _ _ rfl) (by rw [rI_row, a3]; exact rwS_0)
    have z0 : 0 + 161 * (x_z + 1) = 161 * (x_z + 1) := by omega
    rw [z0] at g0
    clear loop_z
    simp (disch := omega) only [B_172_110, a1_z.u, z0, inI, inL, isT, kInt, kByt, true_and, and_true, an_t, im_t, im_f, or_true, true_or, true_imp_iff, false_imp_iff, not_true_eq_false, not_false_eq_true, gK_uI, gK_uL, gK_uR, gK_uCI, gK_uCL, gN_uI, gN_uL, gN_uR, gN_uCI, gN_uCL, gR_uI, gR_uL, gR_uCI, gR_uCL, gI_uL, gI_uR, gI_uCL, gL_uI, gL_uR, gL_uCI, gz_uI, gz_uL, gz_uR, gz_uCI, gz_uCL, gs_uI, gs_uL, gs_uR, gs_uCI, gs_uCL, rI_at, rL_at, rR_at, rI_ne, rL_ne, rR_ne, rI_nk, rL_nk, rR_nk, rI_eq, rL_eq, rR_eq, Option.toList_some, Option.toList_none, List.cons_append, List.nil_append, List.append_nil, zc_eq, zc_lt, zc_le, zc_ge, zc_gt]
    all_goals exact g0
  rw [B_172_106]
  have g_z := h_z.1
  simp only [Option.toList_some, Option.toList_none, List.cons_append, List.nil_append, List.append_nil]
  exact ⟨g_z.u.1, sv⟩
/-- the state with its new program -/
theorem EdRow.new {x_z : Int} {p_z n' : Nat} {f_z : Int → Int} {cd' : Nat → Int} (h_z : EdRow G M (b + 10) f_z) (hp : PrB M b (b + 10)) (hz : b + 221 ≤ gz M) (cx : -1 ≤ x_z ∧ x_z ≤ 5) (n1_z : n' ≤ 107) (pg : PgR G M p_z n' cd') (p0_z : b + 222 ≤ p_z) (p1_z : p_z + 3 ≤ gz M) : EdRow G (uI (uR M (b + 11) (x_z + 1) p_z) (b + 2) 5 0) (b + 10) (rwS f_z (161 * (x_z + 1)) n' cd' (n' : Int)) ∧ PrB (uI (uR M (b + 11) (x_z + 1) p_z) (b + 2) 5 0) b (b + 10) := by
  have fw : Fw b M (uI (uR M (b + 11) (x_z + 1) p_z) (b + 2) 5 0) := ⟨Nat.le_refl _, fun _ _ => rfl, fun _ _ => rfl, fun r_z _ q_z _ _ _ => by rw [rI_ne q_z]; rfl, fun _ _ _ => rfl, fun r_z _ _ _ q_z => by show gR (uR M _ _ _) r_z = _; rw [rR_ne q_z]⟩
  have ei : ∀ a_z, b + 10 ≤ a_z → gI (uI (uR M (b + 11) (x_z + 1) p_z) (b + 2) 5 0) a_z = gI M a_z := fun a_z a0_z => by
    rw [rI_ne (by omega)]
    rfl
  have erA : gR (uI (uR M (b + 11) (x_z + 1) p_z) (b + 2) 5 0) (b + 10 + 1) (x_z + 1) = p_z := rR_at
  have erB : ∀ y_z, y_z ≠ x_z + 1 → gR (uI (uR M (b + 11) (x_z + 1) p_z) (b + 2) 5 0) (b + 10 + 1) y_z = gR M (b + 10 + 1) y_z := fun y_z hy => by
    show gR (uR M (b + 11) (x_z + 1) p_z) (b + 11) y_z = _
    rw [rR_nk hy]
  obtain ⟨h1, h2, h3, h4, h5, h6, h7⟩ := h_z
  generalize uI (uR M (b + 11) (x_z + 1) p_z) (b + 2) 5 0 = M' at *
  refine ⟨⟨h1.fw fw (by omega) (by omega) (by omega) hz, fun y_z y0 y1 => ?_, fun i_z i0_z i1_z => ?_, fun i_z i0_z i1_z => ?_, ?_, ?_, ?_⟩, fun y_z y0 y1 => ?_⟩
  · by_cases cy : y_z = x_z + 1
    · subst cy
      right
      have el : lnm (fkT (rwS f_z (161 * (x_z + 1)) n' cd' (n' : Int))) 0 (x_z + 1) = (n' : Int) := rwS_at
      rw [el, erA]
      refine ⟨by omega, ?_⟩
      rw [show ((n' : Int)).toNat = n' from by omega]
      refine PgR.congr (pg.fw fw p0_z p1_z) (fun k_z hk => ?_)
      show rwS f_z (161 * (x_z + 1)) n' cd' (n' : Int) (161 * (x_z + 1) + 1 + (k_z : Int)) = cd' k_z
      exact rwS_in (by omega)
    · have out_z : ∀ i_z, 161 * y_z ≤ i_z → i_z < 161 * y_z + 161 → rwS f_z (161 * (x_z + 1)) n' cd' (n' : Int) i_z = f_z i_z := fun i_z i0_z i1_z => by
        by_cases lt : y_z < x_z + 1
        · exact rwS_out (Or.inl (by omega)) (by omega)
        · exact rwS_out (Or.inr (by omega)) (by omega)
      have el : lnm (fkT (rwS f_z (161 * (x_z + 1)) n' cd' (n' : Int))) 0 y_z = lnm (fkT f_z) 0 y_z := out_z (161 * y_z) (by omega) (by omega)
      rw [el, erB y_z cy]
      rcases h2 y_z y0 y1 with q_z | ⟨q1_z, q2_z⟩
      · exact Or.inl q_z
      · refine Or.inr ⟨q1_z, ?_⟩
        have n160 := q2_z.2.2.2.1
        have q20 := q2_z.1
        rcases hp y_z y0 y1 with z_z | z_z
        · omega
        · exact PgR.congr (q2_z.fw fw (by omega) (by omega)) (fun k_z hk => out_z (161 * y_z + 1 + (k_z : Int)) (by omega) (by omega))
  · rw [ei _ (by omega), ei _ (by omega)]
    obtain ⟨a1_z, a2, a3⟩ := h3 i_z i0_z i1_z
    refine ⟨a1_z, ?_, fun j_z j0 j1 => ?_⟩
    · rw [← a2]
      exact rwS_out (Or.inr (by omega)) (by omega)
    · obtain ⟨b1, b2⟩ := a3 j_z j0 j1
      refine ⟨?_, b2⟩
      rw [b1]
      exact (rwS_out (Or.inr (by omega)) (by omega)).symm
  · rw [ei _ (by omega)]
    obtain ⟨a1_z, a2⟩ := h4 i_z i0_z i1_z
    refine ⟨?_, a2⟩
    rw [a1_z]
    exact (rwS_out (Or.inr (by omega)) (by omega)).symm
  · rw [ei _ (by omega)]
    refine ⟨?_, h5.2⟩
    rw [h5.1]
    exact (rwS_out (Or.inr (by omega)) (by omega)).symm
  · rw [ei _ (by omega)]
    refine ⟨?_, h6.2⟩
    rw [h6.1]
    exact (rwS_out (Or.inr (by omega)) (by omega)).symm
  · rw [ei _ (by omega)]
    refine ⟨?_, h7.2⟩
    rw [h7.1]
    exact (rwS_out (Or.inr (by omega)) (by omega)).symm
  · obtain ⟨f0_z, fk, -, -, -, -⟩ := fw
    by_cases cy : y_z = x_z + 1
    · subst cy
      right
      rw [erA, fk _ (by omega)]
      exact ⟨p0_z, by omega, pg.2.1.1⟩
    · rw [erB y_z cy]
      rcases hp y_z y0 y1 with z_z | ⟨z1, z2, z3⟩
      · exact Or.inl z_z
      · exact Or.inr ⟨z1, by omega, by rw [fk _ (by omega)]; exact z3⟩
theorem OldC.fw {z_z : Nat} {M' : Mem} (o : OldC z_z M M') (hz : z_z = gz M) (h_z : gz M ≤ gz M') : Fw b M M' := by
  subst hz
  exact ⟨h_z, fun r_z hr => (o r_z hr).1, fun r_z hr => (o r_z hr).2.1, fun r_z hr _ _ _ _ => (o r_z hr).2.2.1, fun r_z hr _ => (o r_z hr).2.2.2.1, fun r_z hr _ _ _ => (o r_z hr).2.2.2.2⟩
theorem Fw.trans {M' M'' : Mem} (f_z : Fw b M M') (f2_z : Fw b M' M'') : Fw b M M'' := by
  obtain ⟨a0_z, a1_z, a2, a3, a4, a5⟩ := f_z
  obtain ⟨b0, b1, b2, b3, b4, b5⟩ := f2_z
  exact ⟨by omega, fun r_z hr => (b1 r_z (by omega)).trans (a1_z r_z hr), fun r_z hr => (b2 r_z (by omega)).trans (a2 r_z hr), fun r_z hr q1_z q2_z q3_z q4_z => (b3 r_z (by omega) q1_z q2_z q3_z q4_z).trans (a3 r_z hr q1_z q2_z q3_z q4_z), fun r_z hr q_z => (b4 r_z (by omega) q_z).trans (a4 r_z hr q_z), fun r_z hr q1_z q2_z q3_z => (b5 r_z (by omega) q1_z q2_z q3_z).trans (a5 r_z hr q1_z q2_z q3_z)⟩
/-- the class, behind its reading -/
theorem X_csB {x_z tl : Int} {n_z n' : Nat} {f_z tx : Int → Int} {ps_z : Nat → Int → Int} {cd' : Nat → Int} (hS_z : ClS G M b) (hE : ClE G M b n_z f_z ps_z) (hM_z : MoI M (b + 193) n_z f_z ps_z tl tx) (hR : RunR M M (b + 16) (b + 193)) (cx : -1 ≤ x_z ∧ x_z ≤ 5) (n1_z : n' ≤ 107) (h6 : gI M (b + 2) 6 = (n' : Int)) (hk : TkS G M b n' cd') (hp : PrF (gI M (b + 6)) n' cd') (wf : WfP cd' n') (rm1 : gz M + 10 ≤ G.1 + 600000) (rm2 : gs M + 1000 ≤ 7302249) (hQ : ∀ M', ClS G M' b → ClE G M' b (svN n_z) (rwS f_z (161 * (x_z + 1)) n' cd' (n' : Int)) (svP n_z ps_z f_z) → MoI M' (b + 193) n_z f_z ps_z tl tx → RunR M' M' (b + 16) (b + 193) → gI M' (b + 2) 5 = 0 → gz M' = gz M + 4 → gs M' = gs M + 4 + 3 * n' → Q (some (a_i (n' : Int))) M') : At G 13 27 [a_r (b + 1), a_i x_z, a_i (-1), a_u] [] M Q := by
  have sv : Call G J_X_saveState [a_r (b + 1)] M (fun r_z M2_z => At G 13 31 [a_r (b + 1), a_i x_z, a_i (-1), a_u] r_z.toList M2_z Q) := by
    refine X_saveState hS_z hE (fun M2_z o2 hS2 hE2 => ?_)
    have hM2 := hM_z.outS o2
    have hR2 : RunR M2_z M2_z (b + 16) (b + 193) := by
      obtain ⟨o21, o22, o23, o24, o25⟩ := o2
      exact RunR.same hR (fun r_z r0 r1_z => ⟨(o25 r_z (by omega) (by omega) (by omega)).1, (o25 r_z (by omega) (by omega) (by omega)).2.1⟩) (fun r_z r0 r1_z => (o25 r_z (by omega) (by omega) (by omega)).1) (fun j_z _ => by rw [(o25 (b + 193) (by omega) (by omega) (by omega)).1])
    obtain ⟨o21, o22, o23, o24, o25⟩ := o2
    have r2 := o25 (b + 2) (by omega) (by omega) (by omega)
    have r4 := o25 (b + 4) (by omega) (by omega) (by omega)
    have r5_z := o25 (b + 5) (by omega) (by omega) (by omega)
    have r6 := o25 (b + 6) (by omega) (by omega) (by omega)
    have z2 : b + 221 ≤ gz M2_z := hS2.2.2.2.2.2.2.2.2.2
    have hg := hS2.2.2.2.2.2.2.2.1
    have ho := hS2.2.2.2.2.2.1
    have mp_z : Call G J_Rd_makeProgram [a_r (b + 2)] M2_z (fun r_z M3_z => At G 13 38 [a_r (b + 1), a_i x_z, a_i (-1), a_u] r_z.toList M3_z Q) := by
      refine X_makeP (n := n') hS2.2.1 (by rw [r2.1]; exact h6) n1_z (by omega) (fun i_z i0_z i1_z => ?_) (by omega) (by omega) (fun M3_z o3_z z3 s3_z sp_z ip rows_z => ?_)
      · rw [r4.2.2]
        have q_z := hk i_z.toNat (by omega)
        rw [Int.toNat_of_nonneg i0_z] at q_z
        rcases q_z with ⟨q1_z, q2_z, q3_z⟩ | ⟨q1_z, -⟩
        · rw [q3_z]
          have g1 := hg (3 + (cd' i_z.toNat).toNat) (by omega)
          exact ⟨by omega, Or.inr (ho.2 (cd' i_z.toNat).toNat (by omega)).2.1⟩
        · rw [q1_z]
          exact ⟨by omega, Or.inl rfl⟩
      · have pg : PgR G M3_z (gz M2_z + 1) n' cd' := by
          refine ⟨by omega, sp_z, ip, by omega, wf, fun i_z hi_z => ?_, fun j_z hj h14 => ?_⟩
          · obtain ⟨w1_z, w2_z, -⟩ := rows_z (i_z : Int) (by omega) (by omega)
            have w3_z : gL M3_z (gz M2_z + 1 + 2) (i_z : Int) = gL M2_z (b + 5) (i_z : Int) := w2_z
            rw [w1_z, w3_z, r4.2.2, r5_z.2.1]
            exact hk i_z hi_z
          · obtain ⟨-, -, w3_z⟩ := rows_z (j_z : Int) (by omega) (by omega)
            rcases hp j_z hj h14 with q_z | ⟨q_z, q1_z, q2_z, q3_z⟩
            · rw [wf.2] at q_z
              exact absurd q_z (by simp)
            · exact ⟨q_z, q1_z, by rw [w3_z, r6.1]; exact q2_z, q3_z⟩
        have f3_z : Fw b M2_z M3_z := o3_z.fw rfl (by omega)
        have hS3 := hS2.fw f3_z
        have e3_z := EdRow.fw hE2.2.2.2.2.1 f3_z hE2.2.2.2.2.2.2.1 (by omega) (by omega) (by omega) (o3_z (b + 10 + 1) (by omega)).2.2.2.2 z2
        have e4_z := EdRow.new (x_z := x_z) e3_z.1 e3_z.2 (by omega) cx n1_z pg (by omega) (by omega)
        have f4_z : Fw b M3_z (uI (uR M3_z (b + 11) (x_z + 1) (gz M2_z + 1)) (b + 2) 5 0) := ⟨Nat.le_refl _, fun _ _ => rfl, fun _ _ => rfl, fun r_z _ q_z _ _ _ => by rw [rI_ne q_z]; rfl, fun _ _ _ => rfl, fun r_z _ _ _ q_z => by show gR (uR M3_z _ _ _) r_z = _; rw [rR_ne q_z]⟩
        have f24 := f3_z.trans f4_z
        have kp_z : gK M3_z (gz M2_z + 1) = 10 := pg.2.1.1
        have sX3 := hS3.1
        have sS3 := hS3.2.2.1
        have sR3 := hS3.2.1
        have g_z := hQ (uI (uR M3_z (b + 11) (x_z + 1) (gz M2_z + 1)) (b + 2) 5 0) (hS2.fw f24) (hE2.fw f24 z2 e4_z) (hM2.fw f24 z2 (fun r_z hr => by omega)) (hR2.fw f24 z2) rI_at (by show gz M3_z = _; omega) (by show gs M3_z = _; omega)
        have i3_z : gI (uI (uR M3_z (b + 11) (x_z + 1) (gz M2_z + 1)) (b + 2) 5 0) (gz M2_z + 1) 3 = (n' : Int) := by
          rw [rI_ne (by omega)]
          exact ip
        have x1_z : gR (uR M3_z (b + 11) (x_z + 1) (gz M2_z + 1)) (b + 1) = gR M3_z (b + 1) := rR_ne (by omega)
        have kp2 : gz M2_z + 1 = 0 ∨ gK M3_z (gz M2_z + 1) + 109 = 119 := by omega
        clear hQ hM_z hR hM2 hR2 hE hE2 e3_z e4_z f3_z f4_z f24 rows_z pg
        generalize hP : gz M2_z + 1 = P_z at *
        simp (disch := omega) only [B_13_38, sX3.u, sS3.u, sR3.u, x1_z, B_13_59, i3_z, kp_z, inI, inL, isT, kInt, kByt, true_and, and_true, an_t, im_t, im_f, or_true, true_or, true_imp_iff, false_imp_iff, not_true_eq_false, not_false_eq_true, gK_uI, gK_uL, gK_uR, gK_uCI, gK_uCL, gN_uI, gN_uL, gN_uR, gN_uCI, gN_uCL, gR_uI, gR_uL, gR_uCI, gR_uCL, gI_uL, gI_uR, gI_uCL, gL_uI, gL_uR, gL_uCI, gz_uI, gz_uL, gz_uR, gz_uCI, gz_uCL, gs_uI, gs_uL, gs_uR, gs_uCI, gs_uCL, rI_at, rL_at, rR_at, rI_ne, rL_ne, rR_ne, rI_nk, rL_nk, rR_nk, rI_eq, rL_eq, rR_eq, Option.toList_some, Option.toList_none, List.cons_append, List.nil_append, List.append_nil, zc_eq, zc_lt, zc_le, zc_ge, zc_gt]
        first | exact g_z | exact ⟨kp2, g_z⟩ | exact ⟨Or.inr rfl, g_z⟩
    have sX2 := hS2.1
    have sR2 := hS2.2.1
    clear hQ
    simp (disch := omega) only [B_13_31, sX2.u, sR2.u, inI, inL, isT, kInt, kByt, true_and, and_true, an_t, im_t, im_f, or_true, true_or, true_imp_iff, false_imp_iff, not_true_eq_false, not_false_eq_true, gK_uI, gK_uL, gK_uR, gK_uCI, gK_uCL, gN_uI, gN_uL, gN_uR, gN_uCI, gN_uCL, gR_uI, gR_uL, gR_uCI, gR_uCL, gI_uL, gI_uR, gI_uCL, gL_uI, gL_uR, gL_uCI, gz_uI, gz_uL, gz_uR, gz_uCI, gz_uCL, gs_uI, gs_uL, gs_uR, gs_uCI, gs_uCL, rI_at, rL_at, rR_at, rI_ne, rL_ne, rR_ne, rI_nk, rL_nk, rR_nk, rI_eq, rL_eq, rR_eq, Option.toList_some, Option.toList_none, List.cons_append, List.nil_append, List.append_nil, zc_eq, zc_lt, zc_le, zc_ge, zc_gt]
    all_goals exact mp_z
  have sX_z := hS_z.1
  rw [B_13_27]
  simp only [Option.toList_some, Option.toList_none, List.cons_append, List.nil_append, List.append_nil]
  exact ⟨sX_z.1, sv⟩
theorem s_setStream {x_z : Int} (h_z : Inv G M b) (rm1 : gz M + 10 ≤ G.1 + 600000) (rm2 : gs M + 1000 ≤ 7302249) : Same G b J_X_setStream J_M_setStream [a_i x_z] M := by
  have hI := h_z
  obtain ⟨hS_z, n_z, f_z, ps_z, tl, tx, hE, hT_z, hM_z, hR⟩ := h_z
  have sX_z := hS_z.1
  have sR := hS_z.2.1
  by_cases cx : -1 ≤ x_z ∧ x_z ≤ 5
  · obtain ⟨q1_z, q2_z, q3_z, q4_z⟩ := hT_z
    have tC : TxC M (b + 2) tx tl := ⟨sR.u.1, sR.u.2.1, sR.u.2.2.2.2.2.2.1, sR.u.2.2.2.2.2.2.2.1, q1_z, q2_z, q3_z, fun i_z i0_z i1_z => (q4_z i_z i0_z i1_z).1⟩
    have ht : ∀ i_z, 0 ≤ i_z → i_z < tl → 1 ≤ tx i_z ∧ tx i_z ≤ 255 := fun i_z i0_z i1_z => (q4_z i_z i0_z i1_z).2
    have ht0 : ∀ i_z, 0 ≤ i_z → i_z < tl → 0 ≤ tx i_z ∧ tx i_z ≤ 255 := fun i_z i0_z i1_z => by have := ht i_z i0_z i1_z; omega
    obtain ⟨e_z, n', cd', hr⟩ : ∃ e_z n' cd', rdR tx tl = (e_z, n', cd') := ⟨_, _, _, rfl⟩
    have sb_z := skE_bd (t_z := tx) (L_z := tl) (x_z := 0) q2_z
    have rb := rdT_ok (t_z := tx) q3_z q2_z 200 0 (fun _ => 0) (skE tx tl 0) 0 0 (by omega) sb_z.2 (Or.inl (by omega)) (fun k_z hk => absurd hk (by omega))
    have eb := rb.2 e_z n' cd' hr
    have b1 := fun qq => Y_isStreamT (G := G) (M := M) (Q := qq) (x_z := x_z) cx
    show Call G J_X_setStream [a_r (b + 1), a_i x_z] M _
    have go_z : Call G J_Rd_read [a_r (b + 2)] M (fun r_z M2_z => At G 13 17 [a_r (b + 1), a_i x_z, a_u, a_u] r_z.toList M2_z (fun r_z M1_z => ∃ v_z : Int, r_z = some (a_i v_z) ∧ Call G J_M_setStream (a_r (b + 193) :: [a_i x_z]) M1_z (fun r2 M2_z => r2 = some (a_i v_z) ∧ Inv G M2_z b ∧ gz M ≤ gz M2_z ∧ gz M2_z ≤ gz M + 10 ∧ gs M2_z ≤ gs M + 1000))) := by
      refine X_read ht0 hS_z.2.2.2.2.2.2.2.1 hS_z.2.2.2.2.2.2.2.2.1 sR tC hS_z.2.2.2.2.2.2.1 hS_z.2.2.2.2.2.1 (fun e2_z n2_z cd2 he M1_z f1_z hok => ?_)
      rw [hr] at he
      injection he with w1 w2
      injection w2 with w2 w3
      subst w1
      subst w2
      subst w3
      have hI1 := hI.fc f1_z
      have hz1 : gz M1_z = gz M := f1_z.2.2.1
      have hs1 : gs M1_z = gs M := f1_z.2.2.2.1
      have hz : b + 221 ≤ gz M := hS_z.2.2.2.2.2.2.2.2.2
      have hM1 := hM_z.fw f1_z.fw hz (fun r_z hr => by omega)
      by_cases ce : e_z = -1
      · obtain ⟨k1_z, k2_z, k3_z⟩ := hok ce
        obtain ⟨v1_z, v2, -⟩ := rb.1 n' cd' (by rw [← ce]; exact hr)
        have hS1 := hS_z.fw f1_z.fw
        have hE1 := hE.fw f1_z.fw hz (hE.2.2.2.2.1.fw f1_z.fw hE.2.2.2.2.2.2.1 (by omega) (by omega) (by omega) (f1_z.2.2.2.2.1 _ (by omega) (by omega)) hz)
        have hR1 := hR.fw f1_z.fw hz
        have g_z := X_csB (G := G) (Q := fun r_z M1_z => ∃ v_z : Int, r_z = some (a_i v_z) ∧ Call G J_M_setStream (a_r (b + 193) :: [a_i x_z]) M1_z (fun r2 M2_z => r2 = some (a_i v_z) ∧ Inv G M2_z b ∧ gz M ≤ gz M2_z ∧ gz M2_z ≤ gz M + 10 ∧ gs M2_z ≤ gs M + 1000)) hS1 hE1 hM1 hR1 cx v2 k1_z k2_z k3_z v1_z (by omega) (by omega) (fun M4_z hS4 hE4 hM4 hR4 h5 hz4 hs4 => ⟨(n' : Int), rfl, X_msA hM4 cx q2_z q3_z ht hr (fun q_z => absurd ce q_z) (fun _ M5_z f5_z told_z => ?_)⟩)
        · simp (disch := omega) only [Option.toList_some, B_13_17, ce, inI, inL, isT, kInt, kByt, true_and, and_true, an_t, im_t, im_f, or_true, true_or, true_imp_iff, false_imp_iff, not_true_eq_false, not_false_eq_true, gK_uI, gK_uL, gK_uR, gK_uCI, gK_uCL, gN_uI, gN_uL, gN_uR, gN_uCI, gN_uCL, gR_uI, gR_uL, gR_uCI, gR_uCL, gI_uL, gI_uR, gI_uCL, gL_uI, gL_uR, gL_uCI, gz_uI, gz_uL, gz_uR, gz_uCI, gz_uCL, gs_uI, gs_uL, gs_uR, gs_uCI, gs_uCL, rI_at, rL_at, rR_at, rI_ne, rL_ne, rR_ne, rI_nk, rL_nk, rR_nk, rI_eq, rL_eq, rR_eq, Option.toList_some, Option.toList_none, List.cons_append, List.nil_append, List.append_nil, zc_eq, zc_lt, zc_le, zc_ge, zc_gt]
          all_goals exact g_z
        · refine X_msB (hM4.fs f5_z) hE.2.1 cx v2 told_z (fun M6_z o6 e6_z hM6 => ?_)
          have o6' : OutT b M5_z M6_z := o6.mono (fun a_z q_z => by omega)
          have hz5 : gz M5_z = gz M4_z := f5_z.2.2.2.2.1
          have hs5 : gs M5_z = gs M4_z := f5_z.2.2.2.2.2.1
          have hz6 : gz M6_z = gz M5_z := o6.2.2.2.1
          have hs6 : gs M6_z = gs M5_z := o6.2.2.2.2.1
          have row6 : ∀ a_z, a_z < b + 193 ∨ b + 193 + 2 < a_z → gI M6_z a_z = gI M5_z a_z := fun a_z ha_z => (o6.2.2.2.2.2 a_z (by omega)).1
          refine ⟨rfl, ⟨(hS4.outT f5_z.outT).outT o6', svN n_z, _, _, 0, tx, (hE4.outT f5_z.outT).outT o6', ⟨?_, by decide, by decide, fun i_z i0_z i1_z => by omega⟩, hM6, ?_⟩, by omega, by omega, by omega⟩
          · rw [row6 (b + 2) (by omega), f5_z.2.2.2.2.2.2.1 (b + 2) (by omega) (by omega) (by omega)]
            exact h5
          · have hR5 := hR4.fs f5_z
            exact RunR.same hR5 (fun r_z r0 r1_z => ⟨row6 r_z (by omega), (o6.2.2.2.2.2 r_z (by omega)).2⟩) (fun r_z r0 r1_z => row6 r_z (by omega)) (fun j_z hj => e6_z j_z (by omega) (by omega))
      · have g_z : ∃ v_z : Int, some (a_i (-10 - e_z)) = some (a_i v_z) ∧ Call G J_M_setStream (a_r (b + 193) :: [a_i x_z]) M1_z (fun r2 M2_z => r2 = some (a_i v_z) ∧ Inv G M2_z b ∧ gz M ≤ gz M2_z ∧ gz M2_z ≤ gz M + 10 ∧ gs M2_z ≤ gs M + 1000) := by
          refine ⟨-10 - e_z, rfl, X_msA hM1 cx q2_z q3_z ht hr (fun _ M5_z f5_z => ?_) (fun q_z => absurd q_z ce)⟩
          have hz5 : gz M5_z = gz M1_z := f5_z.2.2.2.2.1
          have hs5 : gs M5_z = gs M1_z := f5_z.2.2.2.2.2.1
          exact ⟨rfl, hI1.fs f5_z, by omega, by omega, by omega⟩
        simp (disch := omega) only [Option.toList_some, B_13_17, inI, inL, isT, kInt, kByt, true_and, and_true, an_t, im_t, im_f, or_true, true_or, true_imp_iff, false_imp_iff, not_true_eq_false, not_false_eq_true, gK_uI, gK_uL, gK_uR, gK_uCI, gK_uCL, gN_uI, gN_uL, gN_uR, gN_uCI, gN_uCL, gR_uI, gR_uL, gR_uCI, gR_uCL, gI_uL, gI_uR, gI_uCL, gL_uI, gL_uR, gL_uCI, gz_uI, gz_uL, gz_uR, gz_uCI, gz_uCL, gs_uI, gs_uL, gs_uR, gs_uCI, gs_uCL, rI_at, rL_at, rR_at, rI_ne, rL_ne, rR_ne, rI_nk, rL_nk, rR_nk, rI_eq, rL_eq, rR_eq, Option.toList_some, Option.toList_none, List.cons_append, List.nil_append, List.append_nil, zc_eq, zc_lt, zc_le, zc_ge, zc_gt]
        all_goals exact g_z
    simp (disch := omega) only [E_X_setStream, B_13_0, b1, B_13_4, B_13_10, sX_z.u, sR.u, inI, inL, isT, kInt, kByt, true_and, and_true, an_t, im_t, im_f, or_true, true_or, true_imp_iff, false_imp_iff, not_true_eq_false, not_false_eq_true, gK_uI, gK_uL, gK_uR, gK_uCI, gK_uCL, gN_uI, gN_uL, gN_uR, gN_uCI, gN_uCL, gR_uI, gR_uL, gR_uCI, gR_uCL, gI_uL, gI_uR, gI_uCL, gL_uI, gL_uR, gL_uCI, gz_uI, gz_uL, gz_uR, gz_uCI, gz_uCL, gs_uI, gs_uL, gs_uR, gs_uCI, gs_uCL, rI_at, rL_at, rR_at, rI_ne, rL_ne, rR_ne, rI_nk, rL_nk, rR_nk, rI_eq, rL_eq, rR_eq, Option.toList_some, Option.toList_none, List.cons_append, List.nil_append, List.append_nil, zc_eq, zc_lt, zc_le, zc_ge, zc_gt]
    all_goals exact go_z
  · have b1 := fun qq => Y_isStreamF (G := G) (M := M) (Q := qq) (x_z := x_z) cx
    have b3 := fun qq => Y_inF (G := G) (M := M) (Q := qq) (x_z := x_z) (y_z := -1) (w_z := 5) cx
    refine same_pure (v_z := -10000001) hI (fun Q hq => ?_) (fun Q hq => ?_)
    · simp (disch := omega) only [E_X_setStream, B_13_0, b1, B_13_4, not_true_eq_false, inI, inL, isT, kInt, kByt, true_and, and_true, an_t, im_t, im_f, or_true, true_or, true_imp_iff, false_imp_iff, not_true_eq_false, not_false_eq_true, gK_uI, gK_uL, gK_uR, gK_uCI, gK_uCL, gN_uI, gN_uL, gN_uR, gN_uCI, gN_uCL, gR_uI, gR_uL, gR_uCI, gR_uCL, gI_uL, gI_uR, gI_uCL, gL_uI, gL_uR, gL_uCI, gz_uI, gz_uL, gz_uR, gz_uCI, gz_uCL, gs_uI, gs_uL, gs_uR, gs_uCI, gs_uCL, rI_at, rL_at, rR_at, rI_ne, rL_ne, rR_ne, rI_nk, rL_nk, rR_nk, rI_eq, rL_eq, rR_eq, Option.toList_some, Option.toList_none, List.cons_append, List.nil_append, List.append_nil, zc_eq, zc_lt, zc_le, zc_ge, zc_gt]
      all_goals exact hq
    · simp (disch := omega) only [E_M_setStream, B_172_0, b3, B_172_6, not_true_eq_false, inI, inL, isT, kInt, kByt, true_and, and_true, an_t, im_t, im_f, or_true, true_or, true_imp_iff, false_imp_iff, not_true_eq_false, not_false_eq_true, gK_uI, gK_uL, gK_uR, gK_uCI, gK_uCL, gN_uI, gN_uL, gN_uR, gN_uCI, gN_uCL, gR_uI, gR_uL, gR_uCI, gR_uCL, gI_uL, gI_uR, gI_uCL, gL_uI, gL_uR, gL_uCI, gz_uI, gz_uL, gz_uR, gz_uCI, gz_uCL, gs_uI, gs_uL, gs_uR, gs_uCI, gs_uCL, rI_at, rL_at, rR_at, rI_ne, rL_ne, rR_ne, rI_nk, rL_nk, rR_nk, rI_eq, rL_eq, rR_eq, Option.toList_some, Option.toList_none, List.cons_append, List.nil_append, List.append_nil, zc_eq, zc_lt, zc_le, zc_ge, zc_gt]
      all_goals exact hq
end ES
