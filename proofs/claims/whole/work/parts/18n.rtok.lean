/-! THE PURE PART, part 18: reading a token, in the class. Own work. -/
theorem StC.fc {G : Env0} {M M' : Mem} {b : Nat} {s_z : Stk × Bool} {pa mq : Int} (st_z : StC G M b s_z pa mq) (e7_z : gI M' (b + 7) = gI M (b + 7)) (e8 : gR M' (b + 8) = gR M (b + 8)) (e9_z : gI M' (b + 9) = gI M (b + 9)) : StC G M' b s_z pa mq := by
  unfold StC
  rw [e7_z, e8, e9_z]
  exact st_z
/-- the token n_z is there, the others are as they were -/
def TkAt (G : Env0) (M M' : Mem) (b n_z : Nat) (c_z : Int) : Prop := (∀ i_z : Int, i_z ≠ (n_z : Int) → gR M' (b + 4) i_z = gR M (b + 4) i_z ∧ gL M' (b + 5) i_z = gL M (b + 5) i_z) ∧ ((0 ≤ c_z ∧ c_z ≤ 22 ∧ gR M' (b + 4) (n_z : Int) = G.2 (3 + c_z.toNat)) ∨ (gR M' (b + 4) (n_z : Int) = 0 ∧ gL M' (b + 5) (n_z : Int) = litOf c_z ∧ ((100 ≤ c_z ∧ c_z ≤ 107) ∨ (10000 ≤ c_z ∧ NV (litOf c_z)))))
section EN
variable {G : Env0} {Q : Option AV → Mem → Prop} {M : Mem} {b : Nat} {t : Int → Int} {L : Int} {wd bs : Nat → Nat}
/-- numbers and words -/
theorem X_rt125 {x_z pa mq : Int} {n_z : Nat} {S_z : Stk} {p_z : Bool} {u4_z : AV} (sh_z : ShRd M b) (tx : TxC M (b + 2) t L) (ro : RoOk G M wd bs) (ho : OpF G M) (st_z : StC G M b (S_z, p_z) pa mq) (pb : pa = 0 ∨ pa = 1) (mb : mq = 0 ∨ mq = 1) (hj : ∀ x_z, x_z ∈ S_z → x_z.2 < 160) (b6 : nsv S_z ≤ 6) (b3 : nrp S_z ≤ 3) (h6 : gI M (b + 2) 6 = (n_z : Int)) (n1_z : n_z < 160) (h0 : gR M (b + 4) (n_z : Int) = 0) (x0_z : 0 ≤ x_z) (x1_z : x_z < L) (ht : ∀ i_z, 0 ≤ i_z → i_z < L → 0 ≤ t i_z ∧ t i_z ≤ 255) (hd_z : ¬ sg t L x_z = 36) (hB_z : (tkC t L x_z < 0 ∨ ¬ okT (tkC t L x_z) (S_z, p_z) pa mq) → ∀ M', Fc b M M' → Q (some (a_i 0)) M') (hG : 0 ≤ tkC t L x_z → okT (tkC t L x_z) (S_z, p_z) pa mq → ∀ M', Fc b M M' → gI M' (b + 2) = gI M (b + 2) → TkAt G M M' b n_z (tkC t L x_z) → gI M' (b + 6) = prt (tkC t L x_z) S_z n_z (gI M (b + 6)) → StC G M' b (stepF (tkC t L x_z) n_z (S_z, p_z)) (npa (tkC t L x_z) pa) (nmk (tkC t L x_z) mq) → Q (some (a_i 1)) M') : At G 25 125 [a_r (b + 2), a_i x_z, a_i (tkE t L x_z), a_i (sg t L x_z), u4_z] [] M Q := by
  have eb := tkE_bd (t := t) x0_z x1_z
  have L1 := tx.2.2.2.2.2.2.1
  have ns := fun qq => X_numS (G := G) (Q := qq) (M := M) (x_z := sg t L x_z)
  have enm : nmI t L x_z = zB ((48 ≤ sg t L x_z ∧ sg t L x_z ≤ 57) ∨ sg t L x_z = 45 ∨ sg t L x_z = 47) := rfl
  rw [← enm] at ns
  by_cases c1_z : nmI t L x_z = 0
  · -- words
    obtain ⟨ec, hk⟩ := tkC_op hd_z c1_z
    rw [c1_z] at ns
    have go_z : Call G J_Rd_findOperator [a_r (b + 2), a_i x_z, a_i (tkE t L x_z)] M (fun r_z M2_z => At G 25 166 [a_r (b + 2), a_i x_z, a_i (tkE t L x_z), a_i (sg t L x_z), u4_z] r_z.toList M2_z Q) := by
      refine X_findOp ro tx x0_z (by omega) eb.2 ?_
      rw [← ec]
      by_cases c2_z : tkC t L x_z = -1
      · have g_z := hB_z (Or.inl (by omega)) (uR M (b + 4) (n_z : Int) 0) ((Fc.refl b M).wR _ _ (Or.inl rfl))
        have eo : orf G (tkC t L x_z) = 0 := if_pos (by omega)
        rw [eo]
        generalize tkE t L x_z = e_z at *
        generalize sg t L x_z = v_z at *
        simp (disch := omega) only [B_25_166, sh_z.u, h6, B_25_208, B_25_209, inI, inL, isT, kInt, kByt, true_and, and_true, an_t, im_t, im_f, or_true, true_or, true_imp_iff, false_imp_iff, not_true_eq_false, not_false_eq_true, gK_uI, gK_uL, gK_uR, gK_uCI, gK_uCL, gN_uI, gN_uL, gN_uR, gN_uCI, gN_uCL, gR_uI, gR_uL, gR_uCI, gR_uCL, gI_uL, gI_uR, gI_uCL, gL_uI, gL_uR, gL_uCI, gz_uI, gz_uL, gz_uR, gz_uCI, gz_uCL, gs_uI, gs_uL, gs_uR, gs_uCI, gs_uCL, rI_at, rL_at, rR_at, rI_ne, rL_ne, rR_ne, rI_nk, rL_nk, rR_nk, rI_eq, rL_eq, rR_eq, Option.toList_some, Option.toList_none, List.cons_append, List.nil_append, List.append_nil, zc_eq, zc_lt, zc_le, zc_ge, zc_gt]
        all_goals exact g_z
      · obtain ⟨k_z, hkk⟩ : ∃ k_z : Nat, tkC t L x_z = (k_z : Int) := ⟨(tkC t L x_z).toNat, by omega⟩
        have k23 : k_z < 23 := by omega
        have eo : orf G (tkC t L x_z) = G.2 (3 + k_z) := by
          unfold orf
          rw [if_neg (by omega), hkk]
          rfl
        rw [eo]
        rw [hkk] at hB_z hG
        obtain ⟨o0_z, o1, -, -, -⟩ := ho.n k23
        have f1_z : Fc b M (uR M (b + 4) (n_z : Int) (G.2 (3 + k_z))) := (Fc.refl b M).wR _ _ (Or.inl rfl)
        have st1_z : StC G (uR M (b + 4) (n_z : Int) (G.2 (3 + k_z))) b (S_z, p_z) pa mq := StC.fc st_z rfl (by rw [rR_ne (by omega)]) rfl
        have g2 : Call G J_St_pass [a_r (b + 7), a_r (G.2 (3 + k_z)), a_i (n_z : Int), a_r (b + 6)] (uR M (b + 4) (n_z : Int) (G.2 (3 + k_z))) (fun r_z M2_z => At G 25 201 [a_r (b + 2), a_i x_z, a_i (tkE t L x_z), a_i (sg t L x_z), a_r (G.2 (3 + k_z))] r_z.toList M2_z Q) := by
          refine X_pass (n_z := n_z) (sh_z.fc f1_z) (show OpF G (uR M (b + 4) (n_z : Int) (G.2 (3 + k_z))) from ho) k23 st1_z pb mb hj b6 b3 (fun hb_z M' f_z => ?_) (fun hg M' f_z q1_z q2_z q3_z q4_z q5_z => ?_)
          · have g_z := hB_z (Or.inr hb_z) M' (f1_z.trans f_z)
            simp (disch := omega) only [B_25_201, B_25_208, B_25_209, inI, inL, isT, kInt, kByt, true_and, and_true, an_t, im_t, im_f, or_true, true_or, true_imp_iff, false_imp_iff, not_true_eq_false, not_false_eq_true, gK_uI, gK_uL, gK_uR, gK_uCI, gK_uCL, gN_uI, gN_uL, gN_uR, gN_uCI, gN_uCL, gR_uI, gR_uL, gR_uCI, gR_uCL, gI_uL, gI_uR, gI_uCL, gL_uI, gL_uR, gL_uCI, gz_uI, gz_uL, gz_uR, gz_uCI, gz_uCL, gs_uI, gs_uL, gs_uR, gs_uCI, gs_uCL, rI_at, rL_at, rR_at, rI_ne, rL_ne, rR_ne, rI_nk, rL_nk, rR_nk, rI_eq, rL_eq, rR_eq, Option.toList_some, Option.toList_none, List.cons_append, List.nil_append, List.append_nil, zc_eq, zc_lt, zc_le, zc_ge, zc_gt]
            all_goals exact g_z
          · have g_z := hG (by omega) hg M' (f1_z.trans f_z) q1_z ⟨fun i_z hi_z => ⟨by rw [q2_z, rR_nk hi_z], by rw [q3_z]; rfl⟩, Or.inl ⟨by omega, by omega, by rw [q2_z, rR_at]; rfl⟩⟩ q4_z q5_z
            simp (disch := omega) only [B_25_201, B_25_209, inI, inL, isT, kInt, kByt, true_and, and_true, an_t, im_t, im_f, or_true, true_or, true_imp_iff, false_imp_iff, not_true_eq_false, not_false_eq_true, gK_uI, gK_uL, gK_uR, gK_uCI, gK_uCL, gN_uI, gN_uL, gN_uR, gN_uCI, gN_uCL, gR_uI, gR_uL, gR_uCI, gR_uCL, gI_uL, gI_uR, gI_uCL, gL_uI, gL_uR, gL_uCI, gz_uI, gz_uL, gz_uR, gz_uCI, gz_uCL, gs_uI, gs_uL, gs_uR, gs_uCI, gs_uCL, rI_at, rL_at, rR_at, rI_ne, rL_ne, rR_ne, rI_nk, rL_nk, rR_nk, rI_eq, rL_eq, rR_eq, Option.toList_some, Option.toList_none, List.cons_append, List.nil_append, List.append_nil, zc_eq, zc_lt, zc_le, zc_ge, zc_gt]
            all_goals exact g_z
        generalize tkE t L x_z = e_z at *
        generalize sg t L x_z = v_z at *
        generalize ho' : G.2 (3 + k_z) = o at *
        have e2_z : gR (uR M (b + 4) (n_z : Int) o) (b + 2) = gR M (b + 2) := rR_ne (by omega)
        simp (disch := omega) only [B_25_166, sh_z.u, h6, o1, o0_z, e2_z, or_true, inI, inL, isT, kInt, kByt, true_and, and_true, an_t, im_t, im_f, or_true, true_or, true_imp_iff, false_imp_iff, not_true_eq_false, not_false_eq_true, gK_uI, gK_uL, gK_uR, gK_uCI, gK_uCL, gN_uI, gN_uL, gN_uR, gN_uCI, gN_uCL, gR_uI, gR_uL, gR_uCI, gR_uCL, gI_uL, gI_uR, gI_uCL, gL_uI, gL_uR, gL_uCI, gz_uI, gz_uL, gz_uR, gz_uCI, gz_uCL, gs_uI, gs_uL, gs_uR, gs_uCI, gs_uCL, rI_at, rL_at, rR_at, rI_ne, rL_ne, rR_ne, rI_nk, rL_nk, rR_nk, rI_eq, rL_eq, rR_eq, Option.toList_some, Option.toList_none, List.cons_append, List.nil_append, List.append_nil, zc_eq, zc_lt, zc_le, zc_ge, zc_gt]
        all_goals exact g2
    generalize tkE t L x_z = e_z at *
    generalize sg t L x_z = v_z at *
    simp (disch := omega) only [B_25_125, ns, B_25_129, B_25_160, sh_z.u, inI, inL, isT, kInt, kByt, true_and, and_true, an_t, im_t, im_f, or_true, true_or, true_imp_iff, false_imp_iff, not_true_eq_false, not_false_eq_true, gK_uI, gK_uL, gK_uR, gK_uCI, gK_uCL, gN_uI, gN_uL, gN_uR, gN_uCI, gN_uCL, gR_uI, gR_uL, gR_uCI, gR_uCL, gI_uL, gI_uR, gI_uCL, gL_uI, gL_uR, gL_uCI, gz_uI, gz_uL, gz_uR, gz_uCI, gz_uCL, gs_uI, gs_uL, gs_uR, gs_uCI, gs_uCL, rI_at, rL_at, rR_at, rI_ne, rL_ne, rR_ne, rI_nk, rL_nk, rR_nk, rI_eq, rL_eq, rR_eq, Option.toList_some, Option.toList_none, List.cons_append, List.nil_append, List.append_nil, zc_eq, zc_lt, zc_le, zc_ge, zc_gt]
    all_goals exact go_z
  · -- numbers
    have hn := tkC_num hd_z c1_z
    have go_z : Call G J_Rd_readNumber [a_r (b + 2), a_i x_z, a_i (tkE t L x_z)] M (fun r_z M2_z => At G 25 146 [a_r (b + 2), a_i x_z, a_i (tkE t L x_z), a_i (sg t L x_z), u4_z] (r_z.toList ++ [a_i (n_z : Int), a_r (b + 5)]) M2_z Q) := by
      refine X_readNum tx x0_z eb.1 eb.2 ht ?_
      rcases hn with ⟨n1', n2_z⟩ | ⟨n1', n2_z, n3_z, n4_z, n5_z⟩
      · have g_z := hB_z (Or.inl (by omega)) (uL M (b + 5) (n_z : Int) (-1)) ((Fc.refl b M).wL _ _)
        rw [if_pos n2_z]
        have i0_z := fun qq M => X_isNum0 (G := G) (Q := qq) (M := M)
        generalize tkE t L x_z = e_z at *
        generalize sg t L x_z = v_z at *
        simp (disch := omega) only [B_25_146, sh_z.u, h6, i0_z, B_25_159, inI, inL, isT, kInt, kByt, true_and, and_true, an_t, im_t, im_f, or_true, true_or, true_imp_iff, false_imp_iff, not_true_eq_false, not_false_eq_true, gK_uI, gK_uL, gK_uR, gK_uCI, gK_uCL, gN_uI, gN_uL, gN_uR, gN_uCI, gN_uCL, gR_uI, gR_uL, gR_uCI, gR_uCL, gI_uL, gI_uR, gI_uCL, gL_uI, gL_uR, gL_uCI, gz_uI, gz_uL, gz_uR, gz_uCI, gz_uCL, gs_uI, gs_uL, gs_uR, gs_uCI, gs_uCL, rI_at, rL_at, rR_at, rI_ne, rL_ne, rR_ne, rI_nk, rL_nk, rR_nk, rI_eq, rL_eq, rR_eq, Option.toList_some, Option.toList_none, List.cons_append, List.nil_append, List.append_nil, zc_eq, zc_lt, zc_le, zc_ge, zc_gt]
        all_goals exact g_z
      · rw [if_neg n1', ← n2_z]
        have g_z := hG (by omega) (ok_hi (Or.inr n3_z)) (uL M (b + 5) (n_z : Int) (litOf (tkC t L x_z))) ((Fc.refl b M).wL _ _) rfl ⟨fun i_z hi_z => ⟨rfl, rL_nk hi_z⟩, Or.inr ⟨h0, rL_at, Or.inr ⟨n3_z, n4_z⟩⟩⟩ (prt_id (by omega)).symm (by
          rw [stepF_same (by omega), npa_id (by omega), nmk_id (by omega)]
          exact st_z)
        have i1_z := fun qq M => X_isNum (G := G) (Q := qq) (M := M) n4_z
        generalize litOf (tkC t L x_z) = w_z at *
        generalize tkE t L x_z = e_z at *
        generalize sg t L x_z = v_z at *
        simp (disch := omega) only [B_25_146, sh_z.u, h6, i1_z, B_25_159, inI, inL, isT, kInt, kByt, true_and, and_true, an_t, im_t, im_f, or_true, true_or, true_imp_iff, false_imp_iff, not_true_eq_false, not_false_eq_true, gK_uI, gK_uL, gK_uR, gK_uCI, gK_uCL, gN_uI, gN_uL, gN_uR, gN_uCI, gN_uCL, gR_uI, gR_uL, gR_uCI, gR_uCL, gI_uL, gI_uR, gI_uCL, gL_uI, gL_uR, gL_uCI, gz_uI, gz_uL, gz_uR, gz_uCI, gz_uCL, gs_uI, gs_uL, gs_uR, gs_uCI, gs_uCL, rI_at, rL_at, rR_at, rI_ne, rL_ne, rR_ne, rI_nk, rL_nk, rR_nk, rI_eq, rL_eq, rR_eq, Option.toList_some, Option.toList_none, List.cons_append, List.nil_append, List.append_nil, zc_eq, zc_lt, zc_le, zc_ge, zc_gt]
        all_goals exact g_z
    generalize nmI t L x_z = w_z at *
    generalize tkE t L x_z = e_z at *
    generalize sg t L x_z = v_z at *
    simp (disch := omega) only [B_25_125, ns, B_25_129, c1_z, sh_z.u, h6, inI, inL, isT, kInt, kByt, true_and, and_true, an_t, im_t, im_f, or_true, true_or, true_imp_iff, false_imp_iff, not_true_eq_false, not_false_eq_true, gK_uI, gK_uL, gK_uR, gK_uCI, gK_uCL, gN_uI, gN_uL, gN_uR, gN_uCI, gN_uCL, gR_uI, gR_uL, gR_uCI, gR_uCL, gI_uL, gI_uR, gI_uCL, gL_uI, gL_uR, gL_uCI, gz_uI, gz_uL, gz_uR, gz_uCI, gz_uCL, gs_uI, gs_uL, gs_uR, gs_uCI, gs_uCL, rI_at, rL_at, rR_at, rI_ne, rL_ne, rR_ne, rI_nk, rL_nk, rR_nk, rI_eq, rL_eq, rR_eq, Option.toList_some, Option.toList_none, List.cons_append, List.nil_append, List.append_nil, zc_eq, zc_lt, zc_le, zc_ge, zc_gt]
    all_goals exact go_z
/-- a token -/
theorem X_readTok {x_z pa mq : Int} {n_z : Nat} {S_z : Stk} {p_z : Bool} (sh_z : ShRd M b) (tx : TxC M (b + 2) t L) (wf : WdF G M) (ho : OpF G M) (hgb : ∀ i_z : Nat, (i_z < 26 ∧ i_z ≠ 2) → G.2 i_z ≤ b) (hb1 : G.1 = b) (st_z : StC G M b (S_z, p_z) pa mq) (pb : pa = 0 ∨ pa = 1) (mb : mq = 0 ∨ mq = 1) (hj : ∀ x_z, x_z ∈ S_z → x_z.2 < 160) (b6 : nsv S_z ≤ 6) (b3 : nrp S_z ≤ 3) (h6 : gI M (b + 2) 6 = (n_z : Int)) (n1_z : n_z < 160) (x0_z : 0 ≤ x_z) (x1_z : x_z < L) (ht : ∀ i_z, 0 ≤ i_z → i_z < L → 0 ≤ t i_z ∧ t i_z ≤ 255) (hB_z : (tkC t L x_z < 0 ∨ ¬ okT (tkC t L x_z) (S_z, p_z) pa mq) → ∀ M', Fc b M M' → Q (some (a_i 0)) M') (hG : 0 ≤ tkC t L x_z → okT (tkC t L x_z) (S_z, p_z) pa mq → ∀ M', Fc b M M' → gI M' (b + 2) = gI M (b + 2) → TkAt G M M' b n_z (tkC t L x_z) → gI M' (b + 6) = prt (tkC t L x_z) S_z n_z (upf (gI M (b + 6)) (n_z : Int) (n_z : Int)) → StC G M' b (stepF (tkC t L x_z) n_z (S_z, p_z)) (npa (tkC t L x_z) pa) (nmk (tkC t L x_z) mq) → Q (some (a_i 1)) M') : Call G J_Rd_readToken [a_r (b + 2), a_i x_z, a_i (tkE t L x_z)] M Q := by
  have L1 := tx.2.2.2.2.2.2.1
  have eb := tkE_bd (t := t) x0_z x1_z
  have f1_z : Fc b M (uI (uL (uR M (b + 4) (n_z : Int) 0) (b + 5) (n_z : Int) 1) (b + 6) (n_z : Int) (n_z : Int)) := (((Fc.refl b M).wR _ _ (Or.inl rfl)).wL _ _).wI _ _ (Or.inl rfl)
  have sgx := fun (k_z : Int) (qq : Option AV → Mem → Prop) => X_sgC (G := G) (Q := qq) (x_z := k_z) tx
  have s0_z := fun qq => sgx x_z qq
  have st1_z : StC G (uI (uL (uR M (b + 4) (n_z : Int) 0) (b + 5) (n_z : Int) 1) (b + 6) (n_z : Int) (n_z : Int)) b (S_z, p_z) pa mq := StC.fc st_z (by rw [rI_ne (by omega)]; rfl) (by show gR (uR M _ _ _) _ = _; rw [rR_ne (by omega)]) (by rw [rI_ne (by omega)]; rfl)
  have fin_z : At G 25 45 [a_r (b + 2), a_i x_z, a_i (tkE t L x_z), a_i (sg t L x_z), a_u] [] (uL (uR M (b + 4) (n_z : Int) 0) (b + 5) (n_z : Int) 1) Q := by
    by_cases c_z : sg t L x_z = 36
    · -- a name
      have sg1 := fun (qq : Option AV → Mem → Prop) => X_sgC (G := G) (Q := qq) (x_z := x_z + 1) (tx.fc f1_z)
      have bd1 : 0 ≤ sg t L (x_z + 1) ∧ sg t L (x_z + 1) ≤ 255 := by
        by_cases c9_z : 0 ≤ x_z + 1 ∧ x_z + 1 < L
        · rw [sg_in c9_z]
          exact ht _ c9_z.1 c9_z.2
        · rw [sg_out c9_z]
          decide
      have hn := tkC_name c_z
      have hE : tkE t L x_z = if x_z + 1 < L then x_z + 2 else L := by
        unfold tkE
        rw [if_pos c_z]
      have f2_z : Fc b M (uL (uI (uL (uR M (b + 4) (n_z : Int) 0) (b + 5) (n_z : Int) 1) (b + 6) (n_z : Int) (n_z : Int)) (b + 5) (n_z : Int) ((sg t L (x_z + 1) - 65) * 4294967296)) := f1_z.wL _ _
      have sg2_z := fun (qq : Option AV → Mem → Prop) => X_sgC (G := G) (Q := qq) (x_z := x_z + 1) (tx.fc f2_z)
      have st2_z : StC G (uL (uI (uL (uR M (b + 4) (n_z : Int) 0) (b + 5) (n_z : Int) 1) (b + 6) (n_z : Int) (n_z : Int)) (b + 5) (n_z : Int) ((sg t L (x_z + 1) - 65) * 4294967296)) b (S_z, p_z) pa mq := StC.fc st1_z rfl rfl rfl
      have z32 : zLshl (sg t L (x_z + 1) - 65) 32 = (sg t L (x_z + 1) - 65) * 4294967296 := shl32 ⟨by omega, by omega⟩
      have bad_z := hB_z
      have nmx := fun qq M => Y_isName (G := G) (Q := qq) (M := M) (x_z := sg t L (x_z + 1) - 65)
      have go_z : At G 25 85 [a_r (b + 2), a_i x_z, a_i (tkE t L x_z), a_i 36, a_u] [a_l ((sg t L (x_z + 1) - 65) * 4294967296), a_i (n_z : Int), a_r (b + 5)] (uI (uL (uR M (b + 4) (n_z : Int) 0) (b + 5) (n_z : Int) 1) (b + 6) (n_z : Int) (n_z : Int)) Q := by
        by_cases c2_z : x_z + 1 < L
        · rw [if_pos c2_z] at hE
          rw [hE]
          by_cases c3_z : 65 ≤ sg t L (x_z + 1) ∧ sg t L (x_z + 1) ≤ 72
          · have nm1 := fun M qq => nmx qq M
            have ec : tkC t L x_z = 100 + sg t L (x_z + 1) - 65 := by omega
            by_cases c4_z : p_z = true
            · have g_z := hB_z (Or.inr (by rw [ok_nm (by omega)]; exact fun q_z => by rw [show (S_z, p_z).2 = p_z from rfl, c4_z] at q_z; exact absurd q_z (by decide))) _ f2_z
              have s4_z : gI (uL (uI (uL (uR M (b + 4) (n_z : Int) 0) (b + 5) (n_z : Int) 1) (b + 6) (n_z : Int) (n_z : Int)) (b + 5) (n_z : Int) ((sg t L (x_z + 1) - 65) * 4294967296)) (b + 7) 5 = 1 := by
                rw [st2_z.2.2.2.1, c4_z]
                rfl
              have sh2 := sh_z.fc f2_z
              rw [zB_t (by omega)] at nmx
              clear hB_z hG bad_z nm1 sgx s0_z st_z st1_z st2_z
              rw [B_25_85]
              refine ⟨(sh_z.fc f1_z).u.2.2.2.2.2.2.2.2.2.2.1, by omega, by rw [(sh_z.fc f1_z).u.2.2.2.2.2.2.2.2.2.2.2.1]; omega, ⟨by omega, by omega⟩, fun w_z => absurd (by omega) w_z, fun _ => ⟨⟨by omega, by omega⟩, sh2.u.1, ?_⟩⟩
              rw [sg2_z]
              generalize sg t L (x_z + 1) = v_z at *
              generalize uL (uI (uL (uR M (b + 4) (n_z : Int) 0) (b + 5) (n_z : Int) 1) (b + 6) (n_z : Int) (n_z : Int)) (b + 5) (n_z : Int) ((v_z - 65) * 4294967296) = M2_z at *
              simp (disch := omega) only [B_25_100, nmx, B_25_106, sh2.u, s4_z, B_25_123, B_25_124, inI, inL, isT, kInt, kByt, true_and, and_true, an_t, im_t, im_f, or_true, true_or, true_imp_iff, false_imp_iff, not_true_eq_false, not_false_eq_true, gK_uI, gK_uL, gK_uR, gK_uCI, gK_uCL, gN_uI, gN_uL, gN_uR, gN_uCI, gN_uCL, gR_uI, gR_uL, gR_uCI, gR_uCL, gI_uL, gI_uR, gI_uCL, gL_uI, gL_uR, gL_uCI, gz_uI, gz_uL, gz_uR, gz_uCI, gz_uCL, gs_uI, gs_uL, gs_uR, gs_uCI, gs_uCL, rI_at, rL_at, rR_at, rI_ne, rL_ne, rR_ne, rI_nk, rL_nk, rR_nk, rI_eq, rL_eq, rR_eq, Option.toList_some, Option.toList_none, List.cons_append, List.nil_append, List.append_nil, zc_eq, zc_lt, zc_le, zc_ge, zc_gt]
              all_goals exact g_z
            · have pF : p_z = false := by
                cases p_z
                · rfl
                · exact absurd rfl c4_z
              have g_z := hG (by omega) (by rw [ok_nm (by omega)]; exact pF) _ f2_z (by show gI (uI _ _ _ _) _ = _; rw [rI_ne (by omega)]; rfl) ⟨fun i_z hi_z => ⟨by show gR (uR M _ _ _) _ _ = _; rw [rR_nk hi_z], by rw [rL_nk hi_z]; show gL (uL _ _ _ _) _ _ = _; rw [rL_nk hi_z]; rfl⟩, Or.inr ⟨by show gR (uR M _ _ _) _ _ = _; rw [rR_at], by rw [rL_at]; unfold litOf pk; rw [if_pos (by omega), ec]; omega, Or.inl (by omega)⟩⟩ (by rw [prt_id (by omega)]; show gI (uI _ _ _ _) _ = _; rw [rI_row]; rfl) (by
                rw [stepF_same (by omega), npa_id (by omega), nmk_id (by omega)]
                exact st2_z)
              have s4_z : gI (uL (uI (uL (uR M (b + 4) (n_z : Int) 0) (b + 5) (n_z : Int) 1) (b + 6) (n_z : Int) (n_z : Int)) (b + 5) (n_z : Int) ((sg t L (x_z + 1) - 65) * 4294967296)) (b + 7) 5 = 0 := by
                rw [st2_z.2.2.2.1, pF]
                rfl
              have sh2 := sh_z.fc f2_z
              rw [zB_t (by omega)] at nmx
              clear hB_z hG bad_z nm1 sgx s0_z st_z st1_z st2_z
              rw [B_25_85]
              refine ⟨(sh_z.fc f1_z).u.2.2.2.2.2.2.2.2.2.2.1, by omega, by rw [(sh_z.fc f1_z).u.2.2.2.2.2.2.2.2.2.2.2.1]; omega, ⟨by omega, by omega⟩, fun w_z => absurd (by omega) w_z, fun _ => ⟨⟨by omega, by omega⟩, sh2.u.1, ?_⟩⟩
              rw [sg2_z]
              generalize sg t L (x_z + 1) = v_z at *
              generalize uL (uI (uL (uR M (b + 4) (n_z : Int) 0) (b + 5) (n_z : Int) 1) (b + 6) (n_z : Int) (n_z : Int)) (b + 5) (n_z : Int) ((v_z - 65) * 4294967296) = M2_z at *
              simp (disch := omega) only [B_25_100, nmx, B_25_106, sh2.u, s4_z, B_25_124, inI, inL, isT, kInt, kByt, true_and, and_true, an_t, im_t, im_f, or_true, true_or, true_imp_iff, false_imp_iff, not_true_eq_false, not_false_eq_true, gK_uI, gK_uL, gK_uR, gK_uCI, gK_uCL, gN_uI, gN_uL, gN_uR, gN_uCI, gN_uCL, gR_uI, gR_uL, gR_uCI, gR_uCL, gI_uL, gI_uR, gI_uCL, gL_uI, gL_uR, gL_uCI, gz_uI, gz_uL, gz_uR, gz_uCI, gz_uCL, gs_uI, gs_uL, gs_uR, gs_uCI, gs_uCL, rI_at, rL_at, rR_at, rI_ne, rL_ne, rR_ne, rI_nk, rL_nk, rR_nk, rI_eq, rL_eq, rR_eq, Option.toList_some, Option.toList_none, List.cons_append, List.nil_append, List.append_nil, zc_eq, zc_lt, zc_le, zc_ge, zc_gt]
              all_goals exact g_z
          · have g_z := hB_z (Or.inl (by omega)) _ f2_z
            have sh2 := sh_z.fc f2_z
            rw [zB_f (by omega)] at nmx
            clear hB_z hG bad_z sgx s0_z st_z st1_z st2_z
            rw [B_25_85]
            refine ⟨(sh_z.fc f1_z).u.2.2.2.2.2.2.2.2.2.2.1, by omega, by rw [(sh_z.fc f1_z).u.2.2.2.2.2.2.2.2.2.2.2.1]; omega, ⟨by omega, by omega⟩, fun w_z => absurd (by omega) w_z, fun _ => ⟨⟨by omega, by omega⟩, sh2.u.1, ?_⟩⟩
            rw [sg2_z]
            generalize sg t L (x_z + 1) = v_z at *
            generalize uL (uI (uL (uR M (b + 4) (n_z : Int) 0) (b + 5) (n_z : Int) 1) (b + 6) (n_z : Int) (n_z : Int)) (b + 5) (n_z : Int) ((v_z - 65) * 4294967296) = M2_z at *
            simp (disch := omega) only [B_25_100, nmx, B_25_106, B_25_123, B_25_124, inI, inL, isT, kInt, kByt, true_and, and_true, an_t, im_t, im_f, or_true, true_or, true_imp_iff, false_imp_iff, not_true_eq_false, not_false_eq_true, gK_uI, gK_uL, gK_uR, gK_uCI, gK_uCL, gN_uI, gN_uL, gN_uR, gN_uCI, gN_uCL, gR_uI, gR_uL, gR_uCI, gR_uCL, gI_uL, gI_uR, gI_uCL, gL_uI, gL_uR, gL_uCI, gz_uI, gz_uL, gz_uR, gz_uCI, gz_uCL, gs_uI, gs_uL, gs_uR, gs_uCI, gs_uCL, rI_at, rL_at, rR_at, rI_ne, rL_ne, rR_ne, rI_nk, rL_nk, rR_nk, rI_eq, rL_eq, rR_eq, Option.toList_some, Option.toList_none, List.cons_append, List.nil_append, List.append_nil, zc_eq, zc_lt, zc_le, zc_ge, zc_gt]
            all_goals exact g_z
        · rw [if_neg c2_z] at hE
          rw [hE]
          have g_z := hB_z (Or.inl (by omega)) _ f2_z
          rw [B_25_85]
          refine ⟨(sh_z.fc f1_z).u.2.2.2.2.2.2.2.2.2.2.1, by omega, by rw [(sh_z.fc f1_z).u.2.2.2.2.2.2.2.2.2.2.2.1]; omega, ⟨by omega, by omega⟩, fun _ => ?_, fun w_z => absurd (by omega) w_z⟩
          rw [B_25_123, B_25_124]
          exact ⟨Or.inl rfl, g_z⟩
      clear hB_z hG bad_z
      have sh0 := sh_z.u
      have e2_z : gR (uL (uR M (b + 4) (n_z : Int) 0) (b + 5) (n_z : Int) 1) (b + 2) = gR M (b + 2) := by show gR (uR M _ _ _) _ = _; rw [rR_ne (by omega)]
      generalize sg t L (x_z + 1) = v_z at *
      rw [c_z]
      simp (disch := omega) only [B_25_45, sh0, h6, e2_z, not_true_eq_false, sg1, B_25_79, E_Fc_nameOf, B_26_0, z32, inI, inL, isT, kInt, kByt, true_and, and_true, an_t, im_t, im_f, or_true, true_or, true_imp_iff, false_imp_iff, not_true_eq_false, not_false_eq_true, gK_uI, gK_uL, gK_uR, gK_uCI, gK_uCL, gN_uI, gN_uL, gN_uR, gN_uCI, gN_uCL, gR_uI, gR_uL, gR_uCI, gR_uCL, gI_uL, gI_uR, gI_uCL, gL_uI, gL_uR, gL_uCI, gz_uI, gz_uL, gz_uR, gz_uCI, gz_uCL, gs_uI, gs_uL, gs_uR, gs_uCI, gs_uCL, rI_at, rL_at, rR_at, rI_ne, rL_ne, rR_ne, rI_nk, rL_nk, rR_nk, rI_eq, rL_eq, rR_eq, Option.toList_some, Option.toList_none, List.cons_append, List.nil_append, List.append_nil, zc_eq, zc_lt, zc_le, zc_ge, zc_gt]
      all_goals exact go_z
    · have go_z := X_rt125 (G := G) (Q := Q) (n_z := n_z) (u4_z := a_u) (sh_z.fc f1_z) (tx.fc f1_z) (ro_wd (ho.fc hgb f1_z) (wf.fc hgb hb1 f1_z)) (ho.fc hgb f1_z) st1_z pb mb hj b6 b3 (by rw [rI_ne (by omega)]; exact h6) n1_z (by show gR (uR M _ _ _) _ _ = _; exact rR_at) x0_z x1_z ht c_z (fun hb_z M' f_z => hB_z hb_z M' (f1_z.trans f_z)) (fun h1 h2 M' f_z q1_z q2_z q3_z q4_z => hG h1 h2 M' (f1_z.trans f_z) (by rw [q1_z, rI_ne (by omega)]; rfl) ⟨fun i_z hi_z => ⟨by rw [(q2_z.1 i_z hi_z).1]; show gR (uR M _ _ _) _ _ = _; rw [rR_nk hi_z], by rw [(q2_z.1 i_z hi_z).2]; show gL (uL _ _ _ _) _ _ = _; rw [rL_nk hi_z]; rfl⟩, q2_z.2⟩ (by rw [q3_z, rI_row]; rfl) q4_z)
      clear hB_z hG
      have sh0 := sh_z.u
      have e2_z : gR (uL (uR M (b + 4) (n_z : Int) 0) (b + 5) (n_z : Int) 1) (b + 2) = gR M (b + 2) := by show gR (uR M _ _ _) _ = _; rw [rR_ne (by omega)]
      generalize tkE t L x_z = e_z at *
      generalize sg t L x_z = v_z at *
      simp (disch := omega) only [B_25_45, sh0, h6, e2_z, c_z, not_false_eq_true, inI, inL, isT, kInt, kByt, true_and, and_true, an_t, im_t, im_f, or_true, true_or, true_imp_iff, false_imp_iff, not_true_eq_false, not_false_eq_true, gK_uI, gK_uL, gK_uR, gK_uCI, gK_uCL, gN_uI, gN_uL, gN_uR, gN_uCI, gN_uCL, gR_uI, gR_uL, gR_uCI, gR_uCL, gI_uL, gI_uR, gI_uCL, gL_uI, gL_uR, gL_uCI, gz_uI, gz_uL, gz_uR, gz_uCI, gz_uCL, gs_uI, gs_uL, gs_uR, gs_uCI, gs_uCL, rI_at, rL_at, rR_at, rI_ne, rL_ne, rR_ne, rI_nk, rL_nk, rR_nk, rI_eq, rL_eq, rR_eq, Option.toList_some, Option.toList_none, List.cons_append, List.nil_append, List.append_nil, zc_eq, zc_lt, zc_le, zc_ge, zc_gt]
      all_goals exact go_z
  clear hB_z hG
  have sh0 := sh_z.u
  have e2_z : gR (uR M (b + 4) (n_z : Int) 0) (b + 2) = gR M (b + 2) := by rw [rR_ne (by omega)]
  generalize tkE t L x_z = e_z at *
  generalize sg t L x_z = v_z at *
  simp (disch := omega) only [E_Rd_readToken, B_25_0, sh0, h6, B_25_19, s0_z, B_25_24, e2_z, inI, inL, isT, kInt, kByt, true_and, and_true, an_t, im_t, im_f, or_true, true_or, true_imp_iff, false_imp_iff, not_true_eq_false, not_false_eq_true, gK_uI, gK_uL, gK_uR, gK_uCI, gK_uCL, gN_uI, gN_uL, gN_uR, gN_uCI, gN_uCL, gR_uI, gR_uL, gR_uCI, gR_uCL, gI_uL, gI_uR, gI_uCL, gL_uI, gL_uR, gL_uCI, gz_uI, gz_uL, gz_uR, gz_uCI, gz_uCL, gs_uI, gs_uL, gs_uR, gs_uCI, gs_uCL, rI_at, rL_at, rR_at, rI_ne, rL_ne, rR_ne, rI_nk, rL_nk, rR_nk, rI_eq, rL_eq, rR_eq, Option.toList_some, Option.toList_none, List.cons_append, List.nil_append, List.append_nil, zc_eq, zc_lt, zc_le, zc_ge, zc_gt]
  all_goals exact fin_z
end EN
