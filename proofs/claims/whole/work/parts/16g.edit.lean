/-! THE PURE PART, part 16: the edits. Own work. -/
section CG
variable {G : Env0} {M : Mem} {b jx jm : Nat} {as : List AV}
/-- an edit: both save, both write -/
theorem same_edit {g_z : (Int → Int) → Int → Int} {v_z : (Int → Int) → Int} (h_z : Inv G M b)
    (hx : ∀ n_z f_z ps_z, ClE G M b n_z f_z ps_z → ∀ Q_z : Option AV → Mem → Prop, (∀ M1_z, OutS b M M1_z → ClS G M1_z b → ClE G M1_z b (svN n_z) (g_z f_z) (svP n_z ps_z f_z) → Q_z (some (a_i (v_z f_z))) M1_z) → Call G jx (a_r (b + 1) :: as) M Q_z)
    (hm_z : ∀ (M1_z : Mem) n_z f_z ps_z tl tx, n_z ≤ 6 → gI M (b + 194) = f_z → MoI M1_z (b + 193) n_z f_z ps_z tl tx → ∀ Q_z : Option AV → Mem → Prop, (∀ M2_z, Ex (fun r_z => r_z = b + 193 ∨ r_z = b + 193 + 1 ∨ r_z = b + 193 + 2) M1_z M2_z → (∀ j_z, j_z ≠ 2 → gI M2_z (b + 193) j_z = gI M1_z (b + 193) j_z) → MoI M2_z (b + 193) (svN n_z) (g_z f_z) (svP n_z ps_z f_z) tl tx → Q_z (some (a_i (v_z f_z))) M2_z) → Call G jm (a_r (b + 193) :: as) M1_z Q_z) : Same G b jx jm as M := by
  obtain ⟨hS_z, n_z, f_z, ps_z, tl, tx, hE, hT_z, hM_z, hR⟩ := h_z
  refine hx n_z f_z ps_z hE _ (fun M1_z o1 hS1 hE1 => ⟨v_z f_z, rfl, hm_z M1_z n_z f_z ps_z tl tx hE.2.1 hM_z.2.2.1 (hM_z.outS o1) _ (fun M2_z o2 eF hM2 => ?_)⟩)
  obtain ⟨i1_z, i2_z, i3_z⟩ := inv_edit hT_z hR o1 hS1 hE1 o2 eF hM2
  exact ⟨rfl, i1_z, by omega, by omega, by omega⟩
theorem EdRow.upd {M' : Mem} {s_z : Nat} {f_z f' : Int → Int} (h_z : EdRow G M s_z f_z) (o : OutS b M M') (hp : PrB M b s_z) (eR : gR M' = gR M) (ef : ∀ k_z, 0 ≤ k_z → k_z < 1127 → f' k_z = f_z k_z)
    (h3 : ∀ i_z : Int, 0 ≤ i_z → i_z < 6 → (gI M' (s_z + 2) i_z = 0 ∨ gI M' (s_z + 2) i_z = 1) ∧ f' (1127 + 5 * i_z) = gI M' (s_z + 2) i_z ∧ ∀ j_z : Int, 0 ≤ j_z → j_z < 4 → gI M' (s_z + 3) (4 * i_z + j_z) = f' (1127 + 5 * i_z + 1 + j_z) ∧ (gI M' (s_z + 3) (4 * i_z + j_z)).natAbs ≤ 99)
    (h4 : ∀ i_z : Int, 0 ≤ i_z → i_z < 56 → gI M' (s_z + 4) i_z = f' (1157 + i_z) ∧ (gI M' (s_z + 4) i_z = 0 ∨ (100 ≤ gI M' (s_z + 4) i_z ∧ gI M' (s_z + 4) i_z ≤ 115) ∨ (200 ≤ gI M' (s_z + 4) i_z ∧ gI M' (s_z + 4) i_z ≤ 205)))
    (h5 : gI M' s_z 4 = f' 1213 ∧ 4 ≤ gI M' s_z 4 ∧ gI M' s_z 4 ≤ 24) (h6 : gI M' s_z 5 = f' 1214 ∧ 4 ≤ gI M' s_z 5 ∧ gI M' s_z 5 ≤ 24) (h7 : gI M' s_z 6 = f' 1215 ∧ 1 ≤ gI M' s_z 6 ∧ gI M' s_z 6 ≤ 200) : EdRow G M' s_z f' := by
  obtain ⟨q1_z, q2_z, -⟩ := h_z
  have o' := o
  obtain ⟨o1, o2, o3_z, o4_z, o5_z⟩ := o'
  refine ⟨?_, fun x_z x0_z x1_z => ?_, h3, h4, h5, h6, h7⟩
  · unfold ShSa ShSax at q1_z ⊢
    rw [o1, o2, eR]
    exact q1_z
  · have el : lnm (fkT f') 0 x_z = lnm (fkT f_z) 0 x_z := ef (161 * x_z) (by omega) (by omega)
    rw [eR]
    rcases q2_z x_z x0_z x1_z with q_z | ⟨q3_z, q4_z⟩
    · exact Or.inl (by rw [el]; exact q_z)
    · refine Or.inr ⟨by rw [el]; exact q3_z, ?_⟩
      rw [el]
      have n160 := q4_z.2.2.2.1
      have hp0 : b + 222 ≤ gR M (s_z + 1) x_z := by
        have y_z := q4_z.1
        rcases hp x_z x0_z x1_z with z_z | z_z
        · omega
        · omega
      exact PgR.congr (q4_z.outS o hp0) (fun k_z hk => ef (161 * x_z + 1 + (k_z : Int)) (by omega) (by omega))
/-- the rows of a_z state that stay -/
theorem outS_uI {r_z : Nat} {k_z v_z : Int} (hr : b + 10 ≤ r_z ∧ r_z ≤ b + 14) : OutS b M (uI M r_z k_z v_z) := ⟨rfl, rfl, rfl, rfl, fun a_z q0 q1_z q2_z => ⟨by rw [rI_ne (by omega)], rfl, rfl⟩⟩
end CG
section CH
variable {G : Env0} {M : Mem} {b : Nat}
theorem s_setBudget {x_z : Int} (h_z : Inv G M b) : Same G b J_X_setBudget J_M_setBudget [a_i x_z] M := by
  by_cases cx : 1 ≤ x_z ∧ x_z ≤ 200
  · refine same_edit (g_z := fun f_z => upf f_z 1215 x_z) (v_z := fun f_z => f_z 1215) h_z (fun n_z f_z ps_z hE Q_z hQ => ?_) (fun M1_z n_z f_z ps_z tl tx n6_z _ hM_z Q_z hQ => ?_)
    · have hS_z := h_z.1
      have bt_z := fun qq => Y_isBetweenT (G := G) (Q := qq) (M := M) (x_z := x_z) (y_z := 1) (w_z := 200) cx
      have sv : Call G J_X_saveState [a_r (b + 1)] M (fun r_z M2_z => At G 70 18 [a_r (b + 1), a_i x_z, a_u] r_z.toList M2_z Q_z) := by
        refine X_saveState hS_z hE (fun M1_z o1 hS1 hE1 => ?_)
        have e5_z := hE1.2.2.2.2.1
        obtain ⟨-, -, c3_z, c4_z, c5_z, c6_z, c7_z⟩ := id e5_z
        have o2 : OutS b M1_z (uI M1_z (b + 10) 6 x_z) := outS_uI (by omega)
        have ed : EdRow G (uI M1_z (b + 10) 6 x_z) (b + 10) (upf f_z 1215 x_z) := by
          refine EdRow.upd e5_z o2 hE1.2.2.2.2.2.2.1 rfl (fun k_z k0_z k1_z => upf_ne _ _ (by omega)) (fun i_z i0_z i1_z => ?_) (fun i_z i0_z i1_z => ?_) ?_ ?_ ?_
          · rw [rI_ne (by omega), rI_ne (by omega), upf_ne _ _ (by omega)]
            obtain ⟨d1_z, d2_z, d3_z⟩ := c3_z i_z i0_z i1_z
            exact ⟨d1_z, d2_z, fun j_z j0 j1 => by rw [upf_ne _ _ (by omega)]; exact d3_z j_z j0 j1⟩
          · rw [rI_ne (by omega), upf_ne _ _ (by omega)]
            exact c4_z i_z i0_z i1_z
          · rw [rI_nk (by decide), upf_ne _ _ (by decide)]
            exact c5_z
          · rw [rI_nk (by decide), upf_ne _ _ (by decide)]
            exact c6_z
          · rw [rI_at, upf_at]
            exact ⟨rfl, cx⟩
        obtain ⟨p1_z, p2_z⟩ := ClE.put hS1 hE1 o2 rfl (fun a_z ha_z => rI_ne (by omega)) ed
        have fin_z := hQ _ (o1.trans o2) p1_z p2_z
        have v6 : gI M1_z (b + 10) 6 = f_z 1215 := c7_z.1
        have sX_z := hS1.1
        have sS := hS1.2.2.1
        simp (disch := omega) only [B_70_18, sX_z.u, sS.u, v6, inI, inL, isT, kInt, kByt, true_and, and_true, an_t, im_t, im_f, or_true, true_or, true_imp_iff, false_imp_iff, not_true_eq_false, not_false_eq_true, gK_uI, gK_uL, gK_uR, gK_uCI, gK_uCL, gN_uI, gN_uL, gN_uR, gN_uCI, gN_uCL, gR_uI, gR_uL, gR_uCI, gR_uCL, gI_uL, gI_uR, gI_uCL, gL_uI, gL_uR, gL_uCI, gz_uI, gz_uL, gz_uR, gz_uCI, gz_uCL, gs_uI, gs_uL, gs_uR, gs_uCI, gs_uCL, rI_at, rL_at, rR_at, rI_ne, rL_ne, rR_ne, rI_nk, rL_nk, rR_nk, rI_eq, rL_eq, rR_eq, Option.toList_some, Option.toList_none, List.cons_append, List.nil_append, List.append_nil, zc_eq, zc_lt, zc_le, zc_ge, zc_gt]
        all_goals exact fin_z
      have sX_z := hS_z.1
      simp (disch := omega) only [E_X_setBudget, B_70_0, bt_z, B_70_8, B_70_14, sX_z.u, inI, inL, isT, kInt, kByt, true_and, and_true, an_t, im_t, im_f, or_true, true_or, true_imp_iff, false_imp_iff, not_true_eq_false, not_false_eq_true, gK_uI, gK_uL, gK_uR, gK_uCI, gK_uCL, gN_uI, gN_uL, gN_uR, gN_uCI, gN_uCL, gR_uI, gR_uL, gR_uCI, gR_uCL, gI_uL, gI_uR, gI_uCL, gL_uI, gL_uR, gL_uCI, gz_uI, gz_uL, gz_uR, gz_uCI, gz_uCL, gs_uI, gs_uL, gs_uR, gs_uCI, gs_uCL, rI_at, rL_at, rR_at, rI_ne, rL_ne, rR_ne, rI_nk, rL_nk, rR_nk, rI_eq, rL_eq, rR_eq, Option.toList_some, Option.toList_none, List.cons_append, List.nil_append, List.append_nil, zc_eq, zc_lt, zc_le, zc_ge, zc_gt]
      all_goals exact sv
    · have bt_z := fun qq => Y_in (G := G) (M := M1_z) (Q := qq) (x_z := x_z) (y_z := 1) (w_z := 200)
      rw [zB_t cx] at bt_z
      have sv : Call G J_M_save [a_r (b + 193)] M1_z (fun r_z M2_z => At G 195 18 [a_r (b + 193), a_i x_z, a_u] r_z.toList M2_z Q_z) := by
        refine X_Msave hM_z n6_z (fun M2_z o2 eF hM2 => ?_)
        have hs2 := hM2.1
        have r1_z := hM2.2.2.1
        have fin_z := hQ (uI M2_z (b + 193 + 1) 1215 x_z) (Ex.uI (P_z := fun r_z => r_z = b + 193 ∨ r_z = b + 193 + 1 ∨ r_z = b + 193 + 2) (o2.mono (fun a_z q_z => by omega)) _ _ (Or.inr (Or.inl rfl))) (fun j_z q_z => by rw [rI_ne (by omega)]; exact eF j_z q_z) (hM2.put ((Ex.refl (fun r_z => r_z = b + 193 + 1) M2_z).uI _ _ rfl) (by rw [rI_row, r1_z]))
        have v6 : gI M2_z (b + 193 + 1) 1215 = f_z 1215 := by rw [r1_z]
        simp (disch := omega) only [B_195_18, hs2.u, v6, inI, inL, isT, kInt, kByt, true_and, and_true, an_t, im_t, im_f, or_true, true_or, true_imp_iff, false_imp_iff, not_true_eq_false, not_false_eq_true, gK_uI, gK_uL, gK_uR, gK_uCI, gK_uCL, gN_uI, gN_uL, gN_uR, gN_uCI, gN_uCL, gR_uI, gR_uL, gR_uCI, gR_uCL, gI_uL, gI_uR, gI_uCL, gL_uI, gL_uR, gL_uCI, gz_uI, gz_uL, gz_uR, gz_uCI, gz_uCL, gs_uI, gs_uL, gs_uR, gs_uCI, gs_uCL, rI_at, rL_at, rR_at, rI_ne, rL_ne, rR_ne, rI_nk, rL_nk, rR_nk, rI_eq, rL_eq, rR_eq, Option.toList_some, Option.toList_none, List.cons_append, List.nil_append, List.append_nil, zc_eq, zc_lt, zc_le, zc_ge, zc_gt]
        all_goals exact fin_z
      simp (disch := omega) only [E_M_setBudget, B_195_0, bt_z, B_195_8, B_195_14, hM_z.1.u, inI, inL, isT, kInt, kByt, true_and, and_true, an_t, im_t, im_f, or_true, true_or, true_imp_iff, false_imp_iff, not_true_eq_false, not_false_eq_true, gK_uI, gK_uL, gK_uR, gK_uCI, gK_uCL, gN_uI, gN_uL, gN_uR, gN_uCI, gN_uCL, gR_uI, gR_uL, gR_uCI, gR_uCL, gI_uL, gI_uR, gI_uCL, gL_uI, gL_uR, gL_uCI, gz_uI, gz_uL, gz_uR, gz_uCI, gz_uCL, gs_uI, gs_uL, gs_uR, gs_uCI, gs_uCL, rI_at, rL_at, rR_at, rI_ne, rL_ne, rR_ne, rI_nk, rL_nk, rR_nk, rI_eq, rL_eq, rR_eq, Option.toList_some, Option.toList_none, List.cons_append, List.nil_append, List.append_nil, zc_eq, zc_lt, zc_le, zc_ge, zc_gt]
      all_goals exact sv
  · refine same_pure (v_z := -10000001) h_z (fun Q_z hq => ?_) (fun Q_z hq => ?_)
    · have bt_z := fun qq => Y_isBetweenF (G := G) (Q := qq) (M := M) (x_z := x_z) (y_z := 1) (w_z := 200) cx
      simp (disch := omega) only [E_X_setBudget, B_70_0, bt_z, B_70_8, inI, inL, isT, kInt, kByt, true_and, and_true, an_t, im_t, im_f, or_true, true_or, true_imp_iff, false_imp_iff, not_true_eq_false, not_false_eq_true, gK_uI, gK_uL, gK_uR, gK_uCI, gK_uCL, gN_uI, gN_uL, gN_uR, gN_uCI, gN_uCL, gR_uI, gR_uL, gR_uCI, gR_uCL, gI_uL, gI_uR, gI_uCL, gL_uI, gL_uR, gL_uCI, gz_uI, gz_uL, gz_uR, gz_uCI, gz_uCL, gs_uI, gs_uL, gs_uR, gs_uCI, gs_uCL, rI_at, rL_at, rR_at, rI_ne, rL_ne, rR_ne, rI_nk, rL_nk, rR_nk, rI_eq, rL_eq, rR_eq, Option.toList_some, Option.toList_none, List.cons_append, List.nil_append, List.append_nil, zc_eq, zc_lt, zc_le, zc_ge, zc_gt]
      all_goals exact hq
    · have bt_z := fun qq => Y_in (G := G) (M := M) (Q := qq) (x_z := x_z) (y_z := 1) (w_z := 200)
      rw [zB_f cx] at bt_z
      simp (disch := omega) only [E_M_setBudget, B_195_0, bt_z, B_195_8, inI, inL, isT, kInt, kByt, true_and, and_true, an_t, im_t, im_f, or_true, true_or, true_imp_iff, false_imp_iff, not_true_eq_false, not_false_eq_true, gK_uI, gK_uL, gK_uR, gK_uCI, gK_uCL, gN_uI, gN_uL, gN_uR, gN_uCI, gN_uCL, gR_uI, gR_uL, gR_uCI, gR_uCL, gI_uL, gI_uR, gI_uCL, gL_uI, gL_uR, gL_uCI, gz_uI, gz_uL, gz_uR, gz_uCI, gz_uCL, gs_uI, gs_uL, gs_uR, gs_uCI, gs_uCL, rI_at, rL_at, rR_at, rI_ne, rL_ne, rR_ne, rI_nk, rL_nk, rR_nk, rI_eq, rL_eq, rR_eq, Option.toList_some, Option.toList_none, List.cons_append, List.nil_append, List.append_nil, zc_eq, zc_lt, zc_le, zc_ge, zc_gt]
      all_goals exact hq
end CH
