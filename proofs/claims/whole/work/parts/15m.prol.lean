/-! THE PURE PART, part 15: the class begins a run. Own work. -/
theorem ShMa.cg2 {M M' : Mem} {c : Nat} (h_z : ShMa M c) (eK : gK M' = gK M) (eN_z : gN M' = gN M) (eR : ∀ (a_z : Nat) (j_z : Int), c ≤ a_z → ¬ (c + 22 ≤ a_z ∧ a_z < c + 42 ∧ j_z = 3) → ¬ (a_z = c ∧ j_z = 9) → gR M' a_z j_z = gR M a_z j_z) : ShMa M' c := by
  obtain ⟨h1, h2, h3, h4, h5⟩ := h_z
  have e0_z : ∀ (a_z : Nat) (j_z : Int), c ≤ a_z → a_z < c + 22 → ¬ (a_z = c ∧ j_z = 9) → gR M' a_z j_z = gR M a_z j_z := fun a_z j_z a0_z a1_z a2 => eR a_z j_z a0_z (by omega) a2
  refine ⟨?_, ?_, ?_, fun l hl => ?_, fun t_z ht => ?_⟩
  · unfold ShM0 ShM0x at h1 ⊢
    rw [eK, eN_z, e0_z c 0 (by omega) (by omega) (by omega), e0_z c 1 (by omega) (by omega) (by omega), e0_z c 2 (by omega) (by omega) (by omega), e0_z c 3 (by omega) (by omega) (by omega), e0_z c 4 (by omega) (by omega) (by omega), e0_z c 5 (by omega) (by omega) (by omega), e0_z c 6 (by omega) (by omega) (by omega), e0_z c 7 (by omega) (by omega) (by omega), e0_z c 8 (by omega) (by omega) (by omega)]
    exact h1
  · unfold ShPa ShPax at h2 ⊢
    rw [eK, eN_z, e0_z (c + 4) 0 (by omega) (by omega) (by omega), e0_z (c + 4) 1 (by omega) (by omega) (by omega), e0_z (c + 4) 2 (by omega) (by omega) (by omega), e0_z (c + 4) 3 (by omega) (by omega) (by omega), e0_z (c + 4) 4 (by omega) (by omega) (by omega)]
    exact h2
  · unfold ShIt ShItx at h3 ⊢
    rw [eK, eN_z, e0_z (c + 3) 0 (by omega) (by omega) (by omega), e0_z (c + 3) 1 (by omega) (by omega) (by omega), e0_z (c + 3) 2 (by omega) (by omega) (by omega), e0_z (c + 3) 3 (by omega) (by omega) (by omega), e0_z (c + 3) 4 (by omega) (by omega) (by omega), e0_z (c + 3) 5 (by omega) (by omega) (by omega), e0_z (c + 3) 6 (by omega) (by omega) (by omega), e0_z (c + 3) 7 (by omega) (by omega) (by omega)]
    exact h3
  · obtain ⟨a1_z, a2⟩ := h4 l hl
    refine ⟨by rw [e0_z (c + 1) _ (by omega) (by omega) (by omega)]; exact a1_z, ?_⟩
    unfold ShFr ShFrx at a2 ⊢
    rw [eK, eN_z, eR _ 0 (by omega) (by omega) (by omega), eR _ 1 (by omega) (by omega) (by omega), eR _ 2 (by omega) (by omega) (by omega)]
    exact a2
  · obtain ⟨a1_z, a2⟩ := h5 t_z ht
    refine ⟨by rw [e0_z (c + 2) _ (by omega) (by omega) (by omega)]; exact a1_z, ?_⟩
    unfold ShGr ShGrx at a2 ⊢
    rw [eK, eN_z, eR _ 0 (by omega) (by omega) (by omega), eR _ 1 (by omega) (by omega) (by omega)]
    exact a2
/-- the machine once a_z run begins -/
def PrC (M M' : Mem) (c s p_z : Nat) : Prop := (gK M' = gK M ∧ gN M' = gN M ∧ gz M' = gz M ∧ gs M' = gs M) ∧ (∀ (a_z : Nat) (j_z : Int), ¬ (a_z = c ∧ j_z = 9) → ¬ (a_z = c + 22 ∧ j_z = 3) → gR M' a_z j_z = gR M a_z j_z) ∧ gR M' c 9 = s ∧ gR M' (c + 22) 3 = p_z ∧ (∀ a_z, a_z ≠ c + 43 → gL M' a_z = gL M a_z) ∧ (∀ i_z, 0 ≤ i_z → i_z < 6 → gL M' (c + 43) i_z = if i_z = 0 ∨ i_z = 3 then 4294967297 else 1) ∧
  (∀ a_z, a_z ≠ c → a_z ≠ c + 4 → a_z ≠ c + 8 → a_z ≠ c + 9 → a_z ≠ c + 3 → a_z ≠ c + 22 → a_z ≠ c + 42 → gI M' a_z = gI M a_z) ∧ (gI M' c 10 = 1 ∧ gI M' c 11 = 0 ∧ gI M' c 12 = 0 ∧ gI M' c 13 = 0 ∧ gI M' c 14 = 0 ∧ gI M' c 15 = 0) ∧ (gI M' (c + 4) 5 = 0 ∧ gI M' (c + 4) 6 = 0 ∧ gI M' (c + 4) 7 = 0) ∧ gI M' (c + 8) 0 = 0 ∧ gI M' (c + 3) 8 = 0 ∧ (gI M' (c + 42) 2 = 0 ∧ gI M' (c + 42) 3 = 1) ∧ (gI M' (c + 22) 4 = -1 ∧ gI M' (c + 22) 5 = 0 ∧ gI M' (c + 22) 6 = 0 ∧ gI M' (c + 22) 7 = 0 ∧ gI M' (c + 9) 0 = 0 ∧ ∀ k_z, k_z ≠ 0 → gI M' (c + 9) k_z = gI M (c + 9) k_z)
theorem PrC.b8 {M M' : Mem} {c s p_z : Nat} (h_z : PrC M M' c s p_z) : gI M' (c + 9) 0 = 0 ∧ ∀ k_z, k_z ≠ 0 → gI M' (c + 9) k_z = gI M (c + 9) k_z := by
  unfold PrC at h_z
  exact h_z.2.2.2.2.2.2.2.2.2.2.2.2.2.2.2.2
theorem PrC.of {M M1_z M4_z M5_z : Mem} {c s p_z : Nat} (h1 : M1_z = uI (uI (uI (uI (uI (uI (uR M c 9 s) c 10 1) c 11 0) c 12 0) c 13 0) c 14 0) c 15 0) (h4 : M4_z = uI (uI (uL (uL (uL (uL (uL (uL (uI (uI (uI (uI (uI (uI M1_z (c + 4) 5 0) (c + 4) 6 0) (c + 8) 0 0) (c + 9) 0 0) (c + 4) 7 0) (c + 3) 8 0) (c + 43) 0 4294967297) (c + 43) 1 1) (c + 43) 2 1) (c + 43) 3 4294967297) (c + 43) 4 1) (c + 43) 5 1) (c + 42) 2 0) (c + 42) 3 1) (h5 : M5_z = uI (uI (uI (uR (uI M4_z (c + 22) 4 (-1)) (c + 22) 3 p_z) (c + 22) 5 0) (c + 22) 6 0) (c + 22) 7 0) : PrC M M5_z c s p_z := by
  have k5_z : gK M5_z = gK M ∧ gN M5_z = gN M ∧ gz M5_z = gz M ∧ gs M5_z = gs M := by
    rw [h5, h4, h1]
    exact ⟨by simp only [gK_uI, gK_uL, gK_uR], by simp only [gN_uI, gN_uL, gN_uR], by simp only [gz_uI, gz_uL, gz_uR], by simp only [gs_uI, gs_uL, gs_uR]⟩
  have r1_z : ∀ (a_z : Nat) (j_z : Int), gR M5_z a_z j_z = if a_z = c + 22 ∧ j_z = 3 then p_z else if a_z = c ∧ j_z = 9 then s else gR M a_z j_z := fun a_z j_z => by
    rw [h5, h4, h1]
    simp only [gR_uI, gR_uL, gR_uR]
  have rI : ∀ (a_z : Nat), a_z ≠ c → a_z ≠ c + 4 → a_z ≠ c + 8 → a_z ≠ c + 9 → a_z ≠ c + 3 → a_z ≠ c + 22 → a_z ≠ c + 42 → gI M5_z a_z = gI M a_z := fun a_z n0_z n1_z n2_z n8 n3_z n4_z n5_z => by
    rw [h5, h4, h1]
    simp (disch := omega) only [gI_uL, gI_uR, rI_ne]
  have rL : ∀ (a_z : Nat), a_z ≠ c + 43 → gL M5_z a_z = gL M a_z := fun a_z n0_z => by
    rw [h5, h4, h1]
    simp (disch := omega) only [gL_uI, gL_uR, rL_ne]
  have rM : ∀ i_z : Int, 0 ≤ i_z → i_z < 6 → gL M5_z (c + 43) i_z = if i_z = 0 ∨ i_z = 3 then 4294967297 else 1 := fun i_z i0_z i1_z => by
    have : i_z = 0 ∨ i_z = 1 ∨ i_z = 2 ∨ i_z = 3 ∨ i_z = 4 ∨ i_z = 5 := by omega
    rw [h5, h4, h1]
    rcases this with e_z | e_z | e_z | e_z | e_z | e_z <;> subst e_z <;> simp (disch := omega) only [gL_uI, gL_uR, rL_nk, rL_at] <;> decide
  have fc_z : gI M5_z c 10 = 1 ∧ gI M5_z c 11 = 0 ∧ gI M5_z c 12 = 0 ∧ gI M5_z c 13 = 0 ∧ gI M5_z c 14 = 0 ∧ gI M5_z c 15 = 0 := by
    rw [h5, h4, h1]
    refine ⟨?_, ?_, ?_, ?_, ?_, ?_⟩ <;> simp (disch := omega) only [gI_uL, gI_uR, rI_ne, rI_nk, rI_at]
  have f3_z : gI M5_z (c + 4) 5 = 0 ∧ gI M5_z (c + 4) 6 = 0 ∧ gI M5_z (c + 4) 7 = 0 := by
    rw [h5, h4]
    refine ⟨?_, ?_, ?_⟩ <;> simp (disch := omega) only [gI_uL, gI_uR, rI_ne, rI_nk, rI_at]
  have f7_z : gI M5_z (c + 8) 0 = 0 ∧ gI M5_z (c + 3) 8 = 0 ∧ gI M5_z (c + 42) 2 = 0 ∧ gI M5_z (c + 42) 3 = 1 := by
    rw [h5, h4]
    refine ⟨?_, ?_, ?_, ?_⟩ <;> simp (disch := omega) only [gI_uL, gI_uR, rI_ne, rI_nk, rI_at]
  have f22 : gI M5_z (c + 22) 4 = -1 ∧ gI M5_z (c + 22) 5 = 0 ∧ gI M5_z (c + 22) 6 = 0 ∧ gI M5_z (c + 22) 7 = 0 := by
    rw [h5]
    refine ⟨?_, ?_, ?_, ?_⟩ <;> simp (disch := omega) only [gI_uR, rI_nk, rI_at]
  have f8_z : gI M5_z (c + 9) 0 = 0 ∧ ∀ k_z : Int, k_z ≠ 0 → gI M5_z (c + 9) k_z = gI M (c + 9) k_z := by
    rw [h5, h4, h1]
    refine ⟨?_, fun k_z hk => ?_⟩ <;> simp (disch := omega) only [gI_uL, gI_uR, rI_ne, rI_nk, rI_at]
  clear h1 h4 h5
  exact ⟨k5_z, fun a_z j_z n0_z n1_z => by rw [r1_z a_z j_z, if_neg n1_z, if_neg n0_z], by rw [r1_z, if_neg (by omega), if_pos ⟨rfl, rfl⟩], by rw [r1_z, if_pos ⟨rfl, rfl⟩], rL, rM, rI, fc_z, f3_z, f7_z.1, f7_z.2.1, f7_z.2.2, f22.1, f22.2.1, f22.2.2.1, f22.2.2.2, f8_z⟩
section BF
variable {G : Env0} {Q : Option AV → Mem → Prop} {M T : Mem} {c s m : Nat}
theorem X_grBeg {r_z : Nat} (h_z : ShGr M r_z) : Call G J_Gr_begin [a_r r_z] M Q ↔ Q none (uI (uI (uL (uL (uL (uL (uL (uL M (r_z + 1) 0 4294967297) (r_z + 1) 1 1) (r_z + 1) 2 1) (r_z + 1) 3 4294967297) (r_z + 1) 4 1) (r_z + 1) 5 1) r_z 2 0) r_z 3 1) := by
  simp (disch := omega) only [E_Gr_begin, B_76_0, B_76_16, B_76_32, B_76_46, B_76_56, h_z.u, inI, inL, isT, kInt, kByt, true_and, and_true, an_t, im_t, im_f, or_true, true_or, true_imp_iff, false_imp_iff, not_true_eq_false, not_false_eq_true, gK_uI, gK_uL, gK_uR, gK_uCI, gK_uCL, gN_uI, gN_uL, gN_uR, gN_uCI, gN_uCL, gR_uI, gR_uL, gR_uCI, gR_uCL, gI_uL, gI_uR, gI_uCL, gL_uI, gL_uR, gL_uCI, gz_uI, gz_uL, gz_uR, gz_uCI, gz_uCL, gs_uI, gs_uL, gs_uR, gs_uCI, gs_uCL, rI_at, rL_at, rR_at, rI_ne, rL_ne, rR_ne, rI_nk, rL_nk, rR_nk, rI_eq, rL_eq, rR_eq, Option.toList_some, Option.toList_none, List.cons_append, List.nil_append, List.append_nil, zc_eq, zc_lt, zc_le, zc_ge, zc_gt]
set_option maxHeartbeats 4000000 in
theorem X_maBeg {p_z : Nat} (hs : ShMa M c) (hsa : ShSa M s) (hsc : s + 5 ≤ c) (hp : gR M (s + 1) 0 = p_z) (h_z : ∀ M', PrC M M' c s p_z → Q none M') : Call G J_Ma_begin [a_r c, a_r s] M Q := by
  obtain ⟨M1_z, h1⟩ : ∃ M1_z, M1_z = uI (uI (uI (uI (uI (uI (uR M c 9 s) c 10 1) c 11 0) c 12 0) c 13 0) c 14 0) c 15 0 := ⟨_, rfl⟩
  have r1_z : ∀ (a_z : Nat) (j_z : Int), ¬ (a_z = c ∧ j_z = 9) → gR M1_z a_z j_z = gR M a_z j_z := fun a_z j_z n0_z => by
    rw [h1]
    simp only [gR_uI]
    by_cases q_z : a_z = c
    · rw [q_z, rR_nk (fun y_z => n0_z ⟨q_z, y_z⟩)]
    · rw [rR_ne q_z]
  have k1_z : gK M1_z = gK M ∧ gN M1_z = gN M := by
    rw [h1]
    exact ⟨rfl, rfl⟩
  have hs1 : ShMa M1_z c := hs.cg2 k1_z.1 k1_z.2 (fun a_z j_z a0_z n0_z n1_z => r1_z a_z j_z n1_z)
  have hsa1 : ShSa M1_z s := by
    unfold ShSa ShSax
    rw [k1_z.1, k1_z.2, r1_z s 0 (by omega), r1_z s 1 (by omega), r1_z s 2 (by omega), r1_z s 3 (by omega)]
    exact hsa
  have hp1 : gR M1_z (s + 1) 0 = p_z := by rw [r1_z _ _ (by omega)]; exact hp
  obtain ⟨M2_z, h2⟩ : ∃ M2_z, M2_z = uI (uI (uI (uI (uI M1_z (c + 4) 5 0) (c + 4) 6 0) (c + 8) 0 0) (c + 9) 0 0) (c + 4) 7 0 := ⟨_, rfl⟩
  obtain ⟨M4_z, h4⟩ : ∃ M4_z, M4_z = uI (uI (uL (uL (uL (uL (uL (uL (uI M2_z (c + 3) 8 0) (c + 43) 0 4294967297) (c + 43) 1 1) (c + 43) 2 1) (c + 43) 3 4294967297) (c + 43) 4 1) (c + 43) 5 1) (c + 42) 2 0) (c + 42) 3 1 := ⟨_, rfl⟩
  have u2_z : gK M2_z = gK M1_z ∧ gN M2_z = gN M1_z ∧ gR M2_z = gR M1_z := by
    rw [h2]
    exact ⟨by simp only [gK_uI], by simp only [gN_uI], by simp only [gR_uI]⟩
  have u4_z : gK M4_z = gK M1_z ∧ gN M4_z = gN M1_z ∧ gR M4_z = gR M1_z := by
    rw [h4, ← u2_z.1, ← u2_z.2.1, ← u2_z.2.2]
    exact ⟨by simp only [gK_uI, gK_uL], by simp only [gN_uI, gN_uL], by simp only [gR_uI, gR_uL]⟩
  have hs2 : ShMa M2_z c := hs1.cg2 u2_z.1 u2_z.2.1 (fun a_z j_z _ _ _ => by rw [u2_z.2.2])
  have hs3 : ShMa (uI M2_z (c + 3) 8 0) c := hs2
  have hs4 : ShMa M4_z c := hs1.cg2 u4_z.1 u4_z.2.1 (fun a_z j_z _ _ _ => by rw [u4_z.2.2])
  have hsa4 : ShSa M4_z s := by
    unfold ShSa ShSax at hsa1 ⊢
    rw [u4_z.1, u4_z.2.1, u4_z.2.2]
    exact hsa1
  have hp4 : gR M4_z (s + 1) 0 = p_z := by
    rw [u4_z.2.2]
    exact hp1
  obtain ⟨fr1, fr2⟩ := hs4.fr (d_z := 0) (by decide) (by decide)
  obtain ⟨gr1, gr2⟩ := hs3.gr (d_z := 0) (by decide) (by decide)
  have z0 : c + 22 + 4 * (0 : Int).toNat = c + 22 := rfl
  have z1 : c + 42 + 3 * (0 : Int).toNat = c + 42 := rfl
  rw [z0] at fr1 fr2
  rw [z1] at gr1 gr2
  have g59 : At G 74 59 [a_r c, a_r s] [] M4_z Q := by
    have fb := fun qq => X_frBegin (G := G) (Q := qq) (M := M4_z) (x_z := -1) (p := p_z) fr2
    have fin_z := h_z _ (PrC.of (M4_z := M4_z) h1 (by rw [h4, h2]) rfl)
    clear h_z
    simp (disch := omega) only [B_74_59, hs4.1.u, fr1, fr2.u, hsa4.u, hp4, fb, B_74_75, inI, inL, isT, kInt, kByt, true_and, and_true, an_t, im_t, im_f, or_true, true_or, true_imp_iff, false_imp_iff, not_true_eq_false, not_false_eq_true, gK_uI, gK_uL, gK_uR, gK_uCI, gK_uCL, gN_uI, gN_uL, gN_uR, gN_uCI, gN_uCL, gR_uI, gR_uL, gR_uCI, gR_uCL, gI_uL, gI_uR, gI_uCL, gL_uI, gL_uR, gL_uCI, gz_uI, gz_uL, gz_uR, gz_uCI, gz_uCL, gs_uI, gs_uL, gs_uR, gs_uCI, gs_uCL, rI_at, rL_at, rR_at, rI_ne, rL_ne, rR_ne, rI_nk, rL_nk, rR_nk, rI_eq, rL_eq, rR_eq, Option.toList_some, Option.toList_none, List.cons_append, List.nil_append, List.append_nil, zc_eq, zc_lt, zc_le, zc_ge, zc_gt]
    all_goals exact fin_z
  have g42 : At G 74 42 [a_r c, a_r s] [] M2_z Q := by
    have gb := fun qq => X_grBeg (G := G) (Q := qq) gr2
    have e43 : c + 42 + 1 = c + 43 := rfl
    rw [e43] at gb
    rw [← h4] at gb
    have sI := hs2.2.2.1
    simp (disch := omega) only [B_74_42, hs2.1.u, sI.u, hs3.1.u, gr1, gr2.u, gb, inI, inL, isT, kInt, kByt, true_and, and_true, an_t, im_t, im_f, or_true, true_or, true_imp_iff, false_imp_iff, not_true_eq_false, not_false_eq_true, gK_uI, gK_uL, gK_uR, gK_uCI, gK_uCL, gN_uI, gN_uL, gN_uR, gN_uCI, gN_uCL, gR_uI, gR_uL, gR_uCI, gR_uCL, gI_uL, gI_uR, gI_uCL, gL_uI, gL_uR, gL_uCI, gz_uI, gz_uL, gz_uR, gz_uCI, gz_uCL, gs_uI, gs_uL, gs_uR, gs_uCI, gs_uCL, rI_at, rL_at, rR_at, rI_ne, rL_ne, rR_ne, rI_nk, rL_nk, rR_nk, rI_eq, rL_eq, rR_eq, Option.toList_some, Option.toList_none, List.cons_append, List.nil_append, List.append_nil, zc_eq, zc_lt, zc_le, zc_ge, zc_gt]
    all_goals exact g59
  have pb := fun qq => X_paBegin (G := G) (Q := qq) hs1.2.1
  have e7_z : c + 4 + 4 = c + 8 := rfl
  have e8 : c + 4 + 5 = c + 9 := rfl
  rw [e7_z, e8, ← h2] at pb
  have hs0 : ShMa (uI (uI (uI (uI (uI (uR M c 9 s) c 10 1) c 11 0) c 12 0) c 13 0) c 14 0) c := by
    rw [h1] at hs1
    exact hs1
  have g30 : At G 74 30 [a_r c, a_r s] [] (uI (uI (uI (uI (uI (uR M c 9 s) c 10 1) c 11 0) c 12 0) c 13 0) c 14 0) Q := by
    rw [B_74_30]
    rw [← h1]
    refine ⟨hs0.1.1, hs1.1.1, by rw [hs1.1.u.2.2.2.2.1]; exact hs1.2.1.1, ?_⟩
    rw [hs1.1.u.2.2.2.2.1, pb]
    exact g42
  simp (disch := omega) only [E_Ma_begin, B_74_0, B_74_10, B_74_20, hs.1.u, gK_uR, gK_uI, inI, inL, isT, kInt, kByt, true_and, and_true, an_t, im_t, im_f, or_true, true_or, true_imp_iff, false_imp_iff, not_true_eq_false, not_false_eq_true, Option.toList_some, Option.toList_none, List.cons_append, List.nil_append, List.append_nil]
  all_goals exact g30
end BF
