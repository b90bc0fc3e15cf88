/-! THE PURE PART, part 16: the class saves its state. Own work. -/
/-- the class's rows but those of its states; the model's -/
def OutS (b : Nat) (M M' : Mem) : Prop := gK M' = gK M ∧ gN M' = gN M ∧ gz M' = gz M ∧ gs M' = gs M ∧ ∀ a_z, a_z ≠ b + 1 → ¬ (b + 10 ≤ a_z ∧ a_z ≤ b + 15) → ¬ (b + 163 ≤ a_z ∧ a_z < b + 193) → gI M' a_z = gI M a_z ∧ gL M' a_z = gL M a_z ∧ gR M' a_z = gR M a_z
theorem OutS.trans {b : Nat} {M M' M'' : Mem} (h_z : OutS b M M') (h' : OutS b M' M'') : OutS b M M'' := by
  obtain ⟨a1_z, a2, a3, a4, a5⟩ := h_z
  obtain ⟨b1, b2, b3, b4, b5⟩ := h'
  exact ⟨b1.trans a1_z, b2.trans a2, b3.trans a3, b4.trans a4, fun a_z q0 q1_z q2_z => ⟨(b5 a_z q0 q1_z q2_z).1.trans (a5 a_z q0 q1_z q2_z).1, (b5 a_z q0 q1_z q2_z).2.1.trans (a5 a_z q0 q1_z q2_z).2.1, (b5 a_z q0 q1_z q2_z).2.2.trans (a5 a_z q0 q1_z q2_z).2.2⟩⟩
section CC
variable {G : Env0} {Q : Option AV → Mem → Prop} {M : Mem} {b : Nat}
theorem ShMa.outS {M M' : Mem} {b : Nat} (h_z : ShMa M (b + 16)) (o : OutS b M M') : ShMa M' (b + 16) := by
  obtain ⟨o1, o2, o3_z, o4_z, o5_z⟩ := o
  obtain ⟨h1, h2, h3, h4, h5⟩ := h_z
  have e_z : ∀ a_z, b + 16 ≤ a_z → a_z < b + 163 → gR M' a_z = gR M a_z := fun a_z a0_z a1_z => (o5_z a_z (by omega) (by omega) (by omega)).2.2
  refine ⟨?_, ?_, ?_, fun l hl => ?_, fun t_z ht => ?_⟩
  · unfold ShM0 ShM0x at h1 ⊢
    rw [o1, o2, e_z (b + 16) (by omega) (by omega)]
    exact h1
  · unfold ShPa ShPax at h2 ⊢
    rw [o1, o2, e_z (b + 16 + 4) (by omega) (by omega)]
    exact h2
  · unfold ShIt ShItx at h3 ⊢
    rw [o1, o2, e_z (b + 16 + 3) (by omega) (by omega)]
    exact h3
  · rw [e_z (b + 16 + 1) (by omega) (by omega)]
    refine ⟨(h4 l hl).1, ?_⟩
    have q_z := (h4 l hl).2
    unfold ShFr ShFrx at q_z ⊢
    rw [o1, o2, e_z _ (by omega) (by omega)]
    exact q_z
  · rw [e_z (b + 16 + 2) (by omega) (by omega)]
    refine ⟨(h5 t_z ht).1, ?_⟩
    have q_z := (h5 t_z ht).2
    unfold ShGr ShGrx at q_z ⊢
    rw [o1, o2, e_z _ (by omega) (by omega)]
    exact q_z
/-- what nobody writes, when only states change -/
theorem ClS.outS {M M' : Mem} {b : Nat} (h_z : ClS G M b) (o : OutS b M M') (hX : ShX M' b) (h0 : ShSa M' (b + 10)) (hS_z : ∀ j_z : Nat, j_z < 6 → ShSa M' (svA b j_z)) : ClS G M' b := by
  obtain ⟨h1, h2, h3, h4, h5, h6, h7, h8, h9, h10⟩ := h_z
  have hma := ShMa.outS h5 o
  obtain ⟨o1, o2, o3_z, o4_z, o5_z⟩ := o
  have low : ∀ a_z, a_z ≤ b → gI M' a_z = gI M a_z ∧ gL M' a_z = gL M a_z ∧ gR M' a_z = gR M a_z := fun a_z ha_z => o5_z a_z (by omega) (by omega) (by omega)
  have rd_z : ∀ a_z, b + 2 ≤ a_z → a_z ≤ b + 9 → gR M' a_z = gR M a_z := fun a_z a0_z a1_z => (o5_z a_z (by omega) (by omega) (by omega)).2.2
  refine ⟨hX, ?_, h0, hS_z, hma, ?_, ?_, h8, h9, by omega⟩
  · unfold ShRd ShRdx at h2 ⊢
    rw [o1, o2, rd_z (b + 2) (by omega) (by omega), rd_z (b + 7) (by omega) (by omega)]
    exact h2
  · obtain ⟨q1_z, q2_z⟩ := h6
    unfold OpF
    rw [o1, o2, (low (G.2 1) (h8 1 (by decide))).1]
    refine ⟨q1_z, fun i_z hi_z => ?_⟩
    rw [(low (G.2 (3 + i_z)) (h8 _ (by omega))).1]
    exact q2_z i_z hi_z
  · obtain ⟨q1_z, q2_z⟩ := h7
    unfold WdF
    rw [o1, o2, (low (G.2 0) (h8 0 (by decide))).2.2]
    refine ⟨q1_z, fun i_z hi_z => ?_⟩
    obtain ⟨w_z, a_z, w0_z, a0_z, w1_z, w2_z, w3_z, w4_z, w5, w6_z, w7_z⟩ := q2_z i_z hi_z
    refine ⟨w_z, a_z, w0_z, a0_z, ?_, w2_z, ?_, ?_, w5, w6_z, fun k_z hk => ?_⟩
    · rw [(low (G.2 (3 + i_z)) (h8 _ (by omega))).2.2]
      exact w1_z
    · rw [(low w_z (by omega)).1]
      exact w3_z
    · rw [(low w_z (by omega)).2.2]
      exact w4_z
    · rw [(low a_z (by omega)).1]
      exact w7_z k_z hk
/-- a_z program is as it was -/
theorem PgR.outS {M M' : Mem} {b p_z n_z : Nat} {cd : Nat → Int} (h_z : PgR G M p_z n_z cd) (o : OutS b M M') (hp : b + 222 ≤ p_z) : PgR G M' p_z n_z cd := by
  obtain ⟨o1, o2, o3_z, o4_z, o5_z⟩ := o
  have e_z : ∀ a_z, p_z ≤ a_z → gI M' a_z = gI M a_z ∧ gL M' a_z = gL M a_z ∧ gR M' a_z = gR M a_z := fun a_z ha_z => o5_z a_z (by omega) (by omega) (by omega)
  exact PgR.fr h_z o1 o2 ⟨(e_z p_z (by omega)).2.2, (e_z (p_z + 1) (by omega)).2.2⟩ ⟨(e_z p_z (by omega)).1, (e_z (p_z + 3) (by omega)).1⟩ (e_z (p_z + 2) (by omega)).2.1
/-- rotation of the saved states -/
theorem drop_loop {M0 : Mem} {r0 : Nat} (hX : ShX M0 b) (hk : ∀ i_z : Int, 0 ≤ i_z → i_z < 6 → gK M0 (gR M0 (b + 15) i_z) = 4) (h_z : ∀ M1_z, (gK M1_z = gK M0 ∧ gN M1_z = gN M0 ∧ gz M1_z = gz M0 ∧ gs M1_z = gs M0 ∧ gL M1_z = gL M0 ∧ gI M1_z = gI M0) → (∀ a_z, a_z ≠ b + 15 → gR M1_z a_z = gR M0 a_z) → (∀ x_z : Int, 0 ≤ x_z → x_z < 5 → gR M1_z (b + 15) x_z = gR M0 (b + 15) (x_z + 1)) → At G 49 35 [a_r (b + 1), a_r r0, a_i 6] [] M1_z Q) : ∀ (n_z : Nat) (i_z : Int) (M1_z : Mem), (6 - i_z).toNat = n_z → 1 ≤ i_z → i_z ≤ 6 → (gK M1_z = gK M0 ∧ gN M1_z = gN M0 ∧ gz M1_z = gz M0 ∧ gs M1_z = gs M0 ∧ gL M1_z = gL M0 ∧ gI M1_z = gI M0) → (∀ a_z, a_z ≠ b + 15 → gR M1_z a_z = gR M0 a_z) → (∀ x_z : Int, 0 ≤ x_z → x_z < i_z - 1 → gR M1_z (b + 15) x_z = gR M0 (b + 15) (x_z + 1)) → (∀ x_z : Int, i_z ≤ x_z → x_z < 6 → gR M1_z (b + 15) x_z = gR M0 (b + 15) x_z) → At G 49 9 [a_r (b + 1), a_r r0, a_i i_z] [] M1_z Q := by
  intro n_z
  induction n_z with
  | zero =>
    intro i_z M1_z hn i0_z i1_z hK_z hR hx hy
    have e_z : i_z = 6 := by omega
    subst e_z
    have hh := h_z M1_z hK_z hR (fun x_z x0_z x1_z => hx x_z x0_z (by omega))
    rw [B_49_9]
    simp (disch := omega) only [inI, inL, isT, kInt, kByt, true_and, and_true, an_t, im_t, im_f, or_true, true_or, true_imp_iff, false_imp_iff, not_true_eq_false, not_false_eq_true, gK_uI, gK_uL, gK_uR, gK_uCI, gK_uCL, gN_uI, gN_uL, gN_uR, gN_uCI, gN_uCL, gR_uI, gR_uL, gR_uCI, gR_uCL, gI_uL, gI_uR, gI_uCL, gL_uI, gL_uR, gL_uCI, gz_uI, gz_uL, gz_uR, gz_uCI, gz_uCL, gs_uI, gs_uL, gs_uR, gs_uCI, gs_uCL, rI_at, rL_at, rR_at, rI_ne, rL_ne, rR_ne, rI_nk, rL_nk, rR_nk, rI_eq, rL_eq, rR_eq, Option.toList_some, Option.toList_none, List.cons_append, List.nil_append, List.append_nil, zc_eq, zc_lt, zc_le, zc_ge, zc_gt]
    all_goals exact hh
  | succ n_z ih_z =>
    intro i_z M1_z hn i0_z i1_z hK_z hR hx hy
    obtain ⟨k1_z, k2_z, k3_z, k4_z, k5_z, k6_z⟩ := hK_z
    have hX1 : ShX M1_z b := by
      unfold ShX ShXx
      rw [k1_z, k2_z, hR (b + 1) (by omega)]
      exact hX
    have ei := hy i_z (Int.le_refl i_z) (by omega)
    have k4' : gK M1_z (gR M1_z (b + 15) i_z) = 4 := by
      rw [ei, k1_z]
      exact hk i_z (by omega) (by omega)
    have hp2 : gR M1_z (b + 15) i_z = 0 ∨ gK M1_z (gR M1_z (b + 15) i_z) + 109 = 113 := by omega
    have hh := ih_z (i_z + 1) (uR M1_z (b + 15) (i_z - 1) (gR M1_z (b + 15) i_z)) (by omega) (by omega) (by omega) ⟨k1_z, k2_z, k3_z, k4_z, k5_z, k6_z⟩ (fun a_z n0_z => by rw [rR_ne n0_z]; exact hR a_z n0_z) (fun x_z x0_z x1_z => by
      by_cases e_z : x_z = i_z - 1
      · subst e_z
        rw [rR_at, ei, show i_z - 1 + 1 = i_z from by omega]
      · rw [rR_nk e_z]
        exact hx x_z x0_z (by omega)) (fun x_z x0_z x1_z => by rw [rR_nk (by omega)]; exact hy x_z (by omega) x1_z)
    rw [B_49_9]
    have q6_z : ¬ 6 ≤ i_z := by omega
    refine ⟨fun q_z => absurd q_z q6_z, fun _ => ?_⟩
    simp (disch := omega) only [hX1.u, inI, inL, isT, kInt, kByt, true_and, and_true, an_t, im_t, im_f, or_true, true_or, true_imp_iff, false_imp_iff, not_true_eq_false, not_false_eq_true, gK_uI, gK_uL, gK_uR, gK_uCI, gK_uCL, gN_uI, gN_uL, gN_uR, gN_uCI, gN_uCL, gR_uI, gR_uL, gR_uCI, gR_uCL, gI_uL, gI_uR, gI_uCL, gL_uI, gL_uR, gL_uCI, gz_uI, gz_uL, gz_uR, gz_uCI, gz_uCL, gs_uI, gs_uL, gs_uR, gs_uCI, gs_uCL, rI_at, rL_at, rR_at, rI_ne, rL_ne, rR_ne, rI_nk, rL_nk, rR_nk, rI_eq, rL_eq, rR_eq]
    first | exact hh | exact ⟨hp2, hh⟩
end CC
