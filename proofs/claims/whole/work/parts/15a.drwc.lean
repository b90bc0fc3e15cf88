/-! THE PURE PART, part 15: draw, the class's steps. Own work. -/
theorem ShMa.congr {M M' : Mem} {c : Nat} (h_z : ShMa M c) (eK : gK M' = gK M) (eN_z : gN M' = gN M) (eR : ∀ (a_z : Nat) (j_z : Int), c ≤ a_z → ¬ (c + 22 ≤ a_z ∧ a_z < c + 42 ∧ j_z = 3) → gR M' a_z j_z = gR M a_z j_z) : ShMa M' c := by
  obtain ⟨h1, h2, h3, h4, h5⟩ := h_z
  have e0_z : ∀ (a_z : Nat) (j_z : Int), c ≤ a_z → a_z < c + 22 → gR M' a_z j_z = gR M a_z j_z := fun a_z j_z a0_z a1_z => eR a_z j_z a0_z (by omega)
  refine ⟨?_, ?_, ?_, fun l hl => ?_, fun t_z ht => ?_⟩
  · unfold ShM0 ShM0x at h1 ⊢
    rw [eK, eN_z, e0_z c 0 (by omega) (by omega), e0_z c 1 (by omega) (by omega), e0_z c 2 (by omega) (by omega), e0_z c 3 (by omega) (by omega), e0_z c 4 (by omega) (by omega), e0_z c 5 (by omega) (by omega), e0_z c 6 (by omega) (by omega), e0_z c 7 (by omega) (by omega), e0_z c 8 (by omega) (by omega)]
    exact h1
  · unfold ShPa ShPax at h2 ⊢
    rw [eK, eN_z, e0_z (c + 4) 0 (by omega) (by omega), e0_z (c + 4) 1 (by omega) (by omega), e0_z (c + 4) 2 (by omega) (by omega), e0_z (c + 4) 3 (by omega) (by omega), e0_z (c + 4) 4 (by omega) (by omega)]
    exact h2
  · unfold ShIt ShItx at h3 ⊢
    rw [eK, eN_z, e0_z (c + 3) 0 (by omega) (by omega), e0_z (c + 3) 1 (by omega) (by omega), e0_z (c + 3) 2 (by omega) (by omega), e0_z (c + 3) 3 (by omega) (by omega), e0_z (c + 3) 4 (by omega) (by omega), e0_z (c + 3) 5 (by omega) (by omega), e0_z (c + 3) 6 (by omega) (by omega), e0_z (c + 3) 7 (by omega) (by omega)]
    exact h3
  · obtain ⟨a1_z, a2⟩ := h4 l hl
    refine ⟨by rw [e0_z (c + 1) _ (by omega) (by omega)]; exact a1_z, ?_⟩
    unfold ShFr ShFrx at a2 ⊢
    rw [eK, eN_z, eR _ 0 (by omega) (by omega), eR _ 1 (by omega) (by omega), eR _ 2 (by omega) (by omega)]
    exact a2
  · obtain ⟨a1_z, a2⟩ := h5 t_z ht
    refine ⟨by rw [e0_z (c + 2) _ (by omega) (by omega)]; exact a1_z, ?_⟩
    unfold ShGr ShGrx at a2 ⊢
    rw [eK, eN_z, eR _ 0 (by omega) (by omega), eR _ 1 (by omega) (by omega)]
    exact a2
/-- the graphics state on top is copied -/
def PsF (M M' : Mem) (c g_z : Nat) (tp : Int) : Prop := (gK M' = gK M ∧ gN M' = gN M ∧ gR M' = gR M ∧ gz M' = gz M ∧ gs M' = gs M) ∧ (∀ a_z, a_z ≠ c → a_z ≠ g_z + 3 → a_z ≠ g_z + 5 → gI M' a_z = gI M a_z) ∧ (∀ j_z, j_z ≠ 12 → gI M' c j_z = gI M c j_z) ∧ gI M' c 12 = tp + 1 ∧ gI M' (g_z + 3) 2 = gI M g_z 2 ∧ gI M' (g_z + 3) 3 = gI M g_z 3 ∧ (∀ i_z, 0 ≤ i_z → i_z < 6 → gI M' (g_z + 5) i_z = gI M (g_z + 2) i_z) ∧ (∀ a_z, a_z ≠ g_z + 4 → gL M' a_z = gL M a_z) ∧ ∀ i_z, 0 ≤ i_z → i_z < 6 → gL M' (g_z + 4) i_z = gL M (g_z + 1) i_z
theorem PsF.of {M M' : Mem} {c g_z : Nat} {tp : Int} (hg : c + 42 ≤ g_z) (h_z : M' = uI (uI (uI (uCI (uCL M (g_z + 3 + 1) 0 (g_z + 1) 0 6) (g_z + 3 + 2) 0 (g_z + 2) 0 6) (g_z + 3) 2 (gI M g_z 2)) (g_z + 3) 3 (gI M g_z 3)) c 12 (tp + 1)) : PsF M M' c g_z tp := by
  subst h_z
  generalize hv2 : gI M g_z 2 = v2
  generalize hv3 : gI M g_z 3 = v3
  refine ⟨⟨rfl, rfl, rfl, rfl, rfl⟩, fun a_z n0_z n1_z n2_z => ?_, fun j_z n0_z => ?_, rI_at, ?_, ?_, fun i_z i0_z i1_z => ?_, fun a_z n0_z => ?_, fun i_z i0_z i1_z => ?_⟩
  · rw [rI_ne n0_z, rI_ne n1_z, rI_ne n1_z, rCI_ne (by omega), gI_uCL]
  · rw [rI_nk n0_z, rI_ne (by omega), rI_ne (by omega), rCI_ne (by omega), gI_uCL]
  · rw [rI_ne (by omega), rI_nk (by decide), rI_at]
    exact hv2.symm
  · rw [rI_ne (by omega), rI_at]
    exact hv3.symm
  · rw [rI_ne (by omega), rI_ne (by omega), rI_ne (by omega), rCI_in ⟨by omega, by omega, by omega⟩, show (0 : Int) + (i_z - 0) = i_z from by omega, gI_uCL]
  · show gL (uCL M (g_z + 3 + 1) 0 (g_z + 1) 0 6) a_z = _
    rw [rCL_ne (by omega)]
  · show gL (uCL M (g_z + 3 + 1) 0 (g_z + 1) 0 6) (g_z + 3 + 1) i_z = _
    rw [rCL_in ⟨rfl, by omega, by omega⟩, show (0 : Int) + (i_z - 0) = i_z from by omega]
/-- the box of a_z form as a_z path of the class -/
def PtF (M M' : Mem) (c g_z : Nat) (e_z kk n_z : Int) : Prop := (gK M' = gK M ∧ gN M' = gN M ∧ gR M' = gR M ∧ gz M' = gz M ∧ gs M' = gs M ∧ gL M' = gL M) ∧ (∀ a_z, ¬ (c + 4 ≤ a_z ∧ a_z < c + 10) → a_z ≠ g_z → a_z ≠ g_z + 2 → gI M' a_z = gI M a_z) ∧ (gI M' (c + 4) 5 = e_z + 1 ∧ gI M' (c + 4) 6 = kk + 4 ∧ gI M' (c + 4) 7 = 0) ∧ gI M' (c + 5) = up4 (gI M (c + 5)) kk (fun j_z => gI M (c + 21) (2 * j_z)) ∧ gI M' (c + 6) = up4 (gI M (c + 6)) kk (fun j_z => gI M (c + 21) (2 * j_z + 1)) ∧ gI M' (c + 7) = up4 (gI M (c + 7)) kk fl4 ∧ gI M' (c + 8) = upf (gI M (c + 8)) (e_z + 1) (kk + 4) ∧ gI M' (c + 9) = upf (gI M (c + 9)) (e_z + 1) 0 ∧ (∀ j_z, j_z ≠ 2 → gI M' g_z j_z = gI M g_z j_z) ∧ gI M' g_z 2 = n_z + 1 ∧ gI M' (g_z + 2) = upf (gI M (g_z + 2)) n_z e_z
theorem PtF.of {M M1_z M2_z : Mem} {c g_z : Nat} {e_z kk n_z : Int} (hg : c + 42 ≤ g_z) (hk : gI M (c + 4) 6 = kk) (h1 : M1_z = uI (uI (uI (uI (pAdd4 M (c + 4) (c + 21)) (c + 4) 5 (e_z + 1)) (c + 4 + 4) (e_z + 1) (kk + 4)) (c + 4 + 5) (e_z + 1) 0) (c + 4) 7 0) (h2 : M2_z = uI (uI M1_z (g_z + 2) n_z e_z) g_z 2 (n_z + 1)) : PtF M M2_z c g_z e_z kk n_z := by
  obtain ⟨f1_z, f2_z, f3_z, f4_z, f5_z, f6_z⟩ := pAdd4_f (M_z := M) (r_z := c + 4) (a_z := c + 21) hk
  obtain ⟨k1_z, k2_z, k3_z, k4_z, k5_z, k6_z⟩ := pAdd4_k M (c + 4) (c + 21)
  generalize pAdd4 M (c + 4) (c + 21) = A_z at *
  obtain ⟨⟨a1_z, a2, a3, a4, a5, a6⟩, a7, a8, a9, a10, a11, a12⟩ := paE_f M1_z h1
  obtain ⟨⟨b1, b2, b3, b4, b5, b6⟩, b7, b8, b9, b10⟩ := clA_f M2_z h2
  have bb : ∀ a_z, a_z < c + 42 → gI M2_z a_z = gI M1_z a_z := fun a_z ha_z => b7 a_z (by omega) (by omega)
  refine ⟨⟨b1.trans (a1_z.trans k1_z), b2.trans (a2.trans k2_z), b3.trans (a3.trans k3_z), b4.trans (a4.trans k5_z), b5.trans (a5.trans k6_z), b6.trans (a6.trans k4_z)⟩, fun a_z n0_z n1_z n2_z => ?_, ⟨?_, ?_, ?_⟩, ?_, ?_, ?_, ?_, ?_, fun j_z n0_z => ?_, b9, ?_⟩
  · rw [b7 a_z n1_z n2_z, a7 a_z (by omega) (by omega) (by omega), f1_z a_z (by omega) (by omega) (by omega) (by omega)]
  · rw [bb _ (by omega), a9]
  · rw [bb _ (by omega), a8 6 (by decide) (by decide)]
    exact f3_z
  · rw [bb _ (by omega), a10]
  · rw [bb _ (by omega), a7 _ (by omega) (by omega) (by omega)]
    exact f4_z
  · rw [bb _ (by omega), a7 _ (by omega) (by omega) (by omega)]
    exact f5_z
  · rw [bb _ (by omega), a7 _ (by omega) (by omega) (by omega)]
    exact f6_z
  · rw [bb _ (by omega)]
    have q_z : gI M1_z (c + 8) = _ := a11
    rw [q_z, f1_z (c + 4 + 4) (by omega) (by omega) (by omega) (by omega)]
  · rw [bb _ (by omega)]
    have q_z : gI M1_z (c + 9) = _ := a12
    rw [q_z, f1_z (c + 4 + 5) (by omega) (by omega) (by omega) (by omega)]
  · rw [b8 j_z n0_z, a7 _ (by omega) (by omega) (by omega), f1_z _ (by omega) (by omega) (by omega) (by omega)]
  · rw [b10, a7 _ (by omega) (by omega) (by omega), f1_z _ (by omega) (by omega) (by omega) (by omega)]
/-- the frame of a form that begins -/
def frB (M : Mem) (c r : Nat) (d_z dp f_z : Int) (p_z : Nat) : Mem := uI (uI (uI (uR (uI (uI (uI M c 11 (d_z + 1)) c 14 (if d_z + 1 ≤ dp then dp else d_z + 1)) r 4 f_z) r 3 p_z) r 5 0) r 6 0) r 7 0
section AW
variable {G : Env0} {Q : Option AV → Mem → Prop} {M T : Mem} {c s m r : Nat}
theorem X_pushF {g_z : Nat} {tp : Int} (hs : ShMa M c) (ht : gI M c 12 = tp) (t0_z : 0 ≤ tp) (t1_z : tp + 1 < 35) (hgg : c + 42 + 3 * tp.toNat = g_z) (h_z : ∀ M', ShMa M' c → PsF M M' c g_z tp → Q none M') : Call G J_Ma_pushGraphics [a_r c] M Q := by
  have hG := X_pushGr (G := G) (Q := Q) (M := M) hs (by omega) (by omega)
  have e1_z : c + 42 + 3 * (tp + 1).toNat = g_z + 3 := by omega
  rw [ht, hgg, e1_z] at hG
  refine hG.mpr ?_
  exact h_z _ hs (PsF.of (by omega) rfl)
/-- the end of draw -/
theorem X_drawEnd {r0 p_z : Nat} {d_z dp f_z : Int} {vv : Int} {x4_z x6 : Int} {u3 : AV} (hs : ShMa M c) (h9 : gR M c 9 = s) (hsa : ShSa M s) (hsc : s + 5 ≤ c) (hd_z : gI M c 11 = d_z) (d0_z : 0 ≤ d_z) (d1_z : d_z < 4) (hdp : gI M c 14 = dp) (f0_z : 0 ≤ f_z) (f1_z : f_z ≤ 5) (hp : gR M (s + 1) (f_z + 1) = p_z) (h_z : Q (some (a_i 0)) (frB M c (c + 22 + 4 * (d_z + 1).toNat) d_z dp f_z p_z)) : At G 118 219 [a_r c, a_r r0, a_l vv, u3, a_i x4_z, a_i f_z, a_i x6] [] M Q := by
  have hs1 : ShMa (uI (uI M c 11 (d_z + 1)) c 14 (if d_z + 1 ≤ dp then dp else d_z + 1)) c := hs
  have a11 : gI (uI (uI M c 11 (d_z + 1)) c 14 (if d_z + 1 ≤ dp then dp else d_z + 1)) c 11 = d_z + 1 := by rw [rI_nk (by decide), rI_at]
  have hsa1 : ShSa (uI (uI M c 11 (d_z + 1)) c 14 (if d_z + 1 ≤ dp then dp else d_z + 1)) s := hsa
  have h91 : gR (uI (uI M c 11 (d_z + 1)) c 14 (if d_z + 1 ≤ dp then dp else d_z + 1)) c 9 = s := h9
  have hp1 : gR (uI (uI M c 11 (d_z + 1)) c 14 (if d_z + 1 ≤ dp then dp else d_z + 1)) (s + 1) (f_z + 1) = p_z := hp
  obtain ⟨fr1, fr2⟩ := hs1.fr (d_z := d_z + 1) (by omega) (by omega)
  have go_z : At G 118 252 [a_r c, a_r r0, a_l vv, u3, a_i x4_z, a_i f_z, a_i x6] [a_i (if d_z + 1 ≤ dp then dp else d_z + 1), a_r c] (uI M c 11 (d_z + 1)) Q := by
    unfold frB at h_z
    rw [B_118_252]
    generalize (if d_z + 1 ≤ dp then dp else d_z + 1) = nd' at *
    generalize uI (uI M c 11 (d_z + 1)) c 14 nd' = M1_z at *
    have fb := fun qq => X_frBegin (G := G) (Q := qq) (M := M1_z) (x_z := f_z) (p := p_z) fr2
    have hM1 : gK (uI M c 11 (d_z + 1)) = gK M := rfl
    simp (disch := omega) only [hM1, hs.1.u, hs1.1.u, a11, fr1, fr2.u, h91, hsa1.u, hp1, fb, B_118_281, inI, inL, isT, kInt, kByt, true_and, and_true, an_t, im_t, im_f, or_true, true_or, true_imp_iff, false_imp_iff, not_true_eq_false, not_false_eq_true, gK_uI, gK_uL, gK_uR, gK_uCI, gK_uCL, gN_uI, gN_uL, gN_uR, gN_uCI, gN_uCL, gR_uI, gR_uL, gR_uCI, gR_uCL, gI_uL, gI_uR, gI_uCL, gL_uI, gL_uR, gL_uCI, gz_uI, gz_uL, gz_uR, gz_uCI, gz_uCL, gs_uI, gs_uL, gs_uR, gs_uCI, gs_uCL, rI_at, rL_at, rR_at, rI_ne, rL_ne, rR_ne, rI_nk, rL_nk, rR_nk, rI_eq, rL_eq, rR_eq, Option.toList_some, Option.toList_none, List.cons_append, List.nil_append, List.append_nil, zc_eq, zc_lt, zc_le, zc_ge, zc_gt]
    all_goals exact h_z
  have b11 : gI (uI M c 11 (d_z + 1)) c 11 = d_z + 1 := rI_at
  have b14 : gI (uI M c 11 (d_z + 1)) c 14 = dp := by rw [rI_nk (by decide)]; exact hdp
  have hs2 : ShMa (uI M c 11 (d_z + 1)) c := hs
  by_cases cd : d_z + 1 ≤ dp
  · rw [if_pos cd] at go_z
    simp (disch := omega) only [B_118_219, hs.1.u, hd_z, hs2.1.u, b11, b14, B_118_248, inI, inL, isT, kInt, kByt, true_and, and_true, an_t, im_t, im_f, or_true, true_or, true_imp_iff, false_imp_iff, not_true_eq_false, not_false_eq_true, Option.toList_some, Option.toList_none, List.cons_append, List.nil_append, List.append_nil, zc_eq, zc_lt, zc_le, zc_ge, zc_gt, gK_uI]
    all_goals exact go_z
  · rw [if_neg cd] at go_z
    simp (disch := omega) only [B_118_219, hs.1.u, hd_z, hs2.1.u, b11, b14, inI, inL, isT, kInt, kByt, true_and, and_true, an_t, im_t, im_f, or_true, true_or, true_imp_iff, false_imp_iff, not_true_eq_false, not_false_eq_true, Option.toList_some, Option.toList_none, List.cons_append, List.nil_append, List.append_nil, zc_eq, zc_lt, zc_le, zc_ge, zc_gt, gK_uI]
    all_goals exact go_z
end AW
