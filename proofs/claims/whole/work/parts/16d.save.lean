/-! THE PURE PART, part 16: the class saves its state, done. Own work. -/
/-- the saved rows, one more -/
def psA (ps_z : Nat → Int → Int) (k_z : Nat) (f_z : Int → Int) : Nat → Int → Int := fun i_z => if i_z = k_z then f_z else ps_z i_z
section CD
variable {G : Env0} {Q : Option AV → Mem → Prop} {M : Mem} {b : Nat}
theorem EdRow.keep {M' : Mem} {s_z : Nat} {f_z : Int → Int} (h_z : EdRow G M s_z f_z) (o : OutS b M M') (hp : PrB M b s_z) (e_z : ∀ a_z, s_z ≤ a_z → a_z ≤ s_z + 4 → gI M' a_z = gI M a_z ∧ gR M' a_z = gR M a_z) : EdRow G M' s_z f_z ∧ PrB M' b s_z := by
  have o' := o
  obtain ⟨o1, o2, o3_z, o4_z, o5_z⟩ := o'
  refine ⟨EdRow.copy h_z ?_ (fun x_z _ _ => by rw [(e_z (s_z + 1) (by omega) (by omega)).2]) (fun p_z n_z cd q_z ⟨x_z, x0_z, x1_z, x2_z⟩ => ?_) (fun i_z _ _ => by rw [(e_z (s_z + 2) (by omega) (by omega)).1]) (fun i_z _ _ => by rw [(e_z (s_z + 3) (by omega) (by omega)).1]) (fun i_z _ _ => by rw [(e_z (s_z + 4) (by omega) (by omega)).1]) (fun j_z _ => by rw [(e_z s_z (by omega) (by omega)).1]), fun x_z x0_z x1_z => ?_⟩
  · have q_z := h_z.1
    unfold ShSa ShSax at q_z ⊢
    rw [o1, o2, (e_z s_z (by omega) (by omega)).2]
    exact q_z
  · refine q_z.outS o ?_
    have q1_z := q_z.1
    rcases hp x_z x0_z x1_z with y_z | y_z
    · omega
    · omega
  · rw [(e_z (s_z + 1) (by omega) (by omega)).2, o1, o3_z]
    exact hp x_z x0_z x1_z
theorem PrB.kd {s_z : Nat} (h_z : PrB M b s_z) : ∀ x_z : Int, 0 ≤ x_z → x_z < 7 → gR M (s_z + 1) x_z = 0 ∨ gK M (gR M (s_z + 1) x_z) = 10 := fun x_z x0_z x1_z => by
  rcases h_z x_z x0_z x1_z with q_z | q_z
  · exact Or.inl q_z
  · exact Or.inr q_z.2.2
/-- a_z copy into the place k_z -/
theorem save_at {k_z : Nat} {f_z : Int → Int} {ps_z : Nat → Int → Int} (hS_z : ClS G M b) (hE : ClE G M b k_z f_z ps_z) (hk : k_z < 6) (h_z : ∀ M', OutS b M M' → ClS G M' b → ClE G M' b (k_z + 1) f_z (psA ps_z k_z f_z) → Q none M') : At G 48 13 [a_r (b + 1)] [] M Q := by
  obtain ⟨s1_z, s2_z, s3_z, s4_z, s5, s6_z, s7, s8, s9, s10⟩ := id hS_z
  obtain ⟨e1_z, e2_z, e3_z, e4_z, e5_z, e6_z, e7_z, e8⟩ := hE
  obtain ⟨j_z, j6_z, hj⟩ := e3_z k_z hk
  have hT_z : ShSa M (svA b j_z) := s4_z j_z j6_z
  have hb_z : ∀ i_z : Int, 0 ≤ i_z → i_z < 6 → isT (gI M (b + 10 + 2) i_z) := fun i_z i0_z i1_z => (e5_z.2.2.1 i_z i0_z i1_z).1
  have kT : gK M (svA b j_z) = 4 := hT_z.1
  have cp_z : Call G J_Sa_copyFrom [a_r (svA b j_z), a_r (b + 10)] M (fun q_z M2_z => At G 48 29 [a_r (b + 1)] q_z.toList M2_z Q) := by
    refine X_copyFrom hT_z s3_z (by unfold svA; omega) e7_z.kd hb_z (fun M2_z hC => ?_)
    obtain ⟨⟨c1_z, c2_z, c3_z, c4_z, c5_z⟩, c6_z, c7_z, c8_z, c9_z, c10_z, c11_z, c12_z⟩ := hC
    have r1_z : gI M2_z (b + 1) = gI M (b + 1) := c7_z _ (by unfold svA; omega) (by unfold svA; omega) (by unfold svA; omega) (by unfold svA; omega)
    have sv : b + 163 ≤ svA b j_z ∧ svA b j_z + 5 ≤ b + 193 := by unfold svA; omega
    have oS : OutS b M (uI M2_z (b + 1) 4 ((k_z : Int) + 1)) := ⟨c1_z, c2_z, c3_z, c4_z, fun a_z q0 q1_z q2_z => ⟨by rw [rI_ne q0, c7_z a_z (by omega) (by omega) (by omega) (by omega)], c5_z a_z (by omega), c6_z a_z (by omega)⟩⟩
    have eI : ∀ a_z, a_z ≠ b + 1 → a_z ≠ svA b j_z → a_z ≠ svA b j_z + 2 → a_z ≠ svA b j_z + 3 → a_z ≠ svA b j_z + 4 → gI (uI M2_z (b + 1) 4 ((k_z : Int) + 1)) a_z = gI M a_z := fun a_z q0 q1_z q2_z q3_z q4_z => by rw [rI_ne q0, c7_z a_z q1_z q2_z q3_z q4_z]
    have eR : ∀ a_z, a_z ≠ svA b j_z + 1 → gR (uI M2_z (b + 1) 4 ((k_z : Int) + 1)) a_z = gR M a_z := fun a_z q_z => c6_z a_z q_z
    have hX2 : ShX M2_z b := by
      unfold ShX ShXx
      rw [c1_z, c2_z, c6_z (b + 1) (by omega)]
      exact s1_z
    have fin_z := h_z (uI M2_z (b + 1) 4 ((k_z : Int) + 1)) oS ?_ ?_
    · simp (disch := omega) only [B_48_29, hX2.u, r1_z, e1_z, inI, inL, isT, kInt, kByt, true_and, and_true, an_t, im_t, im_f, or_true, true_or, true_imp_iff, false_imp_iff, not_true_eq_false, not_false_eq_true, gK_uI, gK_uL, gK_uR, gK_uCI, gK_uCL, gN_uI, gN_uL, gN_uR, gN_uCI, gN_uCL, gR_uI, gR_uL, gR_uCI, gR_uCL, gI_uL, gI_uR, gI_uCL, gL_uI, gL_uR, gL_uCI, gz_uI, gz_uL, gz_uR, gz_uCI, gz_uCL, gs_uI, gs_uL, gs_uR, gs_uCI, gs_uCL, rI_at, rL_at, rR_at, rI_ne, rL_ne, rR_ne, rI_nk, rL_nk, rR_nk, rI_eq, rL_eq, rR_eq, Option.toList_some, Option.toList_none, List.cons_append, List.nil_append, List.append_nil, zc_eq, zc_lt, zc_le, zc_ge, zc_gt]
      all_goals exact fin_z
    · refine hS_z.outS oS hX2 ?_ (fun j' hj' => ?_)
      · have q_z : ShSa M2_z (b + 10) := by
          unfold ShSa ShSax
          rw [c1_z, c2_z, c6_z (b + 10) (by omega)]
          exact s3_z
        exact q_z
      · have q_z : ShSa M2_z (svA b j') := by
          have y_z := s4_z j' hj'
          unfold ShSa ShSax at y_z ⊢
          rw [c1_z, c2_z, c6_z (svA b j') (by unfold svA; omega)]
          exact y_z
        exact q_z
    · have keep_z : ∀ s_z f', EdRow G M s_z f' → PrB M b s_z → (s_z + 5 ≤ svA b j_z ∨ svA b j_z + 5 ≤ s_z) → b + 10 ≤ s_z → EdRow G (uI M2_z (b + 1) 4 ((k_z : Int) + 1)) s_z f' ∧ PrB (uI M2_z (b + 1) 4 ((k_z : Int) + 1)) b s_z := fun s_z f' q1_z q2_z q3_z q4_z => EdRow.keep q1_z oS q2_z (fun a_z a0_z a1_z => ⟨eI a_z (by omega) (by omega) (by omega) (by omega) (by omega), eR a_z (by omega)⟩)
      have k10 := keep_z (b + 10) f_z e5_z e7_z (by omega) (Nat.le_refl _)
      have r15 : gR (uI M2_z (b + 1) 4 ((k_z : Int) + 1)) (b + 15) = gR M (b + 15) := eR _ (by omega)
      have ne : ∀ i_z : Nat, i_z < k_z → ∃ j' : Nat, j' < 6 ∧ gR M (b + 15) (i_z : Int) = svA b j' ∧ j' ≠ j_z := fun i_z hi_z => by
        obtain ⟨j', q1_z, q2_z⟩ := e3_z i_z (by omega)
        refine ⟨j', q1_z, q2_z, fun y_z => ?_⟩
        have := e4_z i_z k_z (by omega) hk (by rw [q2_z, hj, y_z])
        omega
      have kk : ∀ i_z : Nat, i_z < k_z → EdRow G (uI M2_z (b + 1) 4 ((k_z : Int) + 1)) (gR M (b + 15) (i_z : Int)) (ps_z i_z) ∧ PrB (uI M2_z (b + 1) 4 ((k_z : Int) + 1)) b (gR M (b + 15) (i_z : Int)) := fun i_z hi_z => by
        obtain ⟨j', q1_z, q2_z, q3_z⟩ := ne i_z hi_z
        have z1 := e6_z i_z hi_z
        have z2 := e8 i_z hi_z
        rw [q2_z] at z1 z2 ⊢
        exact keep_z _ _ z1 z2 (by unfold svA; omega) (by unfold svA; omega)
      have new_z : EdRow G (uI M2_z (b + 1) 4 ((k_z : Int) + 1)) (svA b j_z) f_z ∧ PrB (uI M2_z (b + 1) 4 ((k_z : Int) + 1)) b (svA b j_z) := by
        refine ⟨EdRow.copy e5_z ?_ (fun x_z x0_z x1_z => c8_z x_z x0_z x1_z) (fun p_z n_z cd q_z ⟨x_z, x0_z, x1_z, x2_z⟩ => ?_) (fun i_z i0_z i1_z => ?_) (fun i_z i0_z i1_z => ?_) (fun i_z i0_z i1_z => ?_) (fun j_z hj => ?_), fun x_z x0_z x1_z => ?_⟩
        · show ShSa M2_z (svA b j_z)
          unfold ShSa ShSax
          rw [c1_z, c2_z, c6_z (svA b j_z) (by omega)]
          exact hT_z
        · refine q_z.outS oS ?_
          have q1_z := q_z.1
          rcases e7_z x_z x0_z x1_z with y_z | y_z
          · omega
          · omega
        · rw [rI_ne (by omega)]; exact c9_z i_z i0_z i1_z
        · rw [rI_ne (by omega)]; exact c10_z i_z i0_z i1_z
        · rw [rI_ne (by omega)]; exact c11_z i_z i0_z i1_z
        · rw [rI_ne (by omega)]
          rcases hj with q_z | q_z | q_z <;> subst q_z
          · exact c12_z.1
          · exact c12_z.2.1
          · exact c12_z.2.2
        · show gR M2_z (svA b j_z + 1) x_z = 0 ∨ _
          have y_z := e7_z x_z x0_z x1_z
          have z_z : gR (uI M2_z (b + 1) 4 ((k_z : Int) + 1)) (svA b j_z + 1) x_z = gR M (b + 10 + 1) x_z := c8_z x_z x0_z x1_z
          show gR M2_z (svA b j_z + 1) x_z = 0 ∨ (b + 222 ≤ gR M2_z (svA b j_z + 1) x_z ∧ gR M2_z (svA b j_z + 1) x_z + 3 ≤ gz M2_z ∧ gK M2_z (gR M2_z (svA b j_z + 1) x_z) = 10)
          have z' : gR M2_z (svA b j_z + 1) x_z = gR M (b + 10 + 1) x_z := c8_z x_z x0_z x1_z
          rw [z', c1_z, c3_z]
          exact y_z
      refine ⟨by rw [rI_at]; omega, by omega, fun i_z hi_z => by rw [r15]; exact e3_z i_z hi_z, fun i_z i' q_z q' y_z => e4_z i_z i' q_z q' (by rw [r15] at y_z; exact y_z), k10.1, fun i_z hi_z => ?_, k10.2, fun i_z hi_z => ?_⟩
      · rw [r15]
        unfold psA
        by_cases ci : i_z = k_z
        · rw [if_pos ci, ci, hj]
          exact new_z.1
        · rw [if_neg ci]
          exact (kk i_z (by omega)).1
      · rw [r15]
        by_cases ci : i_z = k_z
        · rw [ci, hj]
          exact new_z.2
        · exact (kk i_z (by omega)).2
  rw [B_48_13]
  simp (disch := omega) only [s1_z.u, e1_z, hj, kT, inI, inL, isT, kInt, kByt, true_and, and_true, an_t, im_t, im_f, or_true, true_or, true_imp_iff, false_imp_iff, not_true_eq_false, not_false_eq_true, gK_uI, gK_uL, gK_uR, gK_uCI, gK_uCL, gN_uI, gN_uL, gN_uR, gN_uCI, gN_uCL, gR_uI, gR_uL, gR_uCI, gR_uCL, gI_uL, gI_uR, gI_uCL, gL_uI, gL_uR, gL_uCI, gz_uI, gz_uL, gz_uR, gz_uCI, gz_uCL, gs_uI, gs_uL, gs_uR, gs_uCI, gs_uCL, rI_at, rL_at, rR_at, rI_ne, rL_ne, rR_ne, rI_nk, rL_nk, rR_nk, rI_eq, rL_eq, rR_eq, List.append_nil]
  all_goals exact cp_z
/-- the oldest state is dropped -/
theorem X_drop {f_z : Int → Int} {ps_z : Nat → Int → Int} (hS_z : ClS G M b) (hE : ClE G M b 6 f_z ps_z) (h_z : ∀ M', OutS b M M' → ClS G M' b → ClE G M' b 5 f_z (fun i_z => ps_z (i_z + 1)) → Q none M') : Call G J_X_dropOldestState [a_r (b + 1)] M Q := by
  obtain ⟨s1_z, s2_z, s3_z, s4_z, s5, s6_z, s7, s8, s9, s10⟩ := id hS_z
  obtain ⟨e1_z, e2_z, e3_z, e4_z, e5_z, e6_z, e7_z, e8⟩ := hE
  have kd : ∀ i_z : Int, 0 ≤ i_z → i_z < 6 → gK M (gR M (b + 15) i_z) = 4 := fun i_z i0_z i1_z => by
    obtain ⟨j_z, j6_z, hj⟩ := e3_z i_z.toNat (by omega)
    rw [Int.toNat_of_nonneg i0_z] at hj
    rw [hj]
    exact (s4_z j_z j6_z).1
  have lp : At G 49 9 [a_r (b + 1), a_r (gR M (b + 15) 0), a_i 1] [] M Q := by
    refine drop_loop s1_z kd (fun M1_z hK_z hR hx => ?_) 5 1 M rfl (by decide) (by decide) ⟨rfl, rfl, rfl, rfl, rfl, rfl⟩ (fun _ _ => rfl) (fun x_z x0_z x1_z => by omega) (fun _ _ _ => rfl)
    obtain ⟨k1_z, k2_z, k3_z, k4_z, k5_z, k6_z⟩ := hK_z
    have hX1 : ShX M1_z b := by
      unfold ShX ShXx
      rw [k1_z, k2_z, hR (b + 1) (by omega)]
      exact s1_z
    have k0_z : gK M1_z (gR M (b + 15) 0) = 4 := by rw [k1_z]; exact kd 0 (by decide) (by decide)
    have hp2 : gR M (b + 15) 0 = 0 ∨ gK M1_z (gR M (b + 15) 0) + 109 = 113 := by omega
    have r1_z : gI M1_z (b + 1) = gI M (b + 1) := by rw [k6_z]
    have oS : OutS b M (uI (uR M1_z (b + 15) 5 (gR M (b + 15) 0)) (b + 1) 4 5) := ⟨k1_z, k2_z, k3_z, k4_z, fun a_z q0 q1_z q2_z => ⟨by rw [rI_ne q0, gI_uR, k6_z], by rw [gL_uI, gL_uR, k5_z], by rw [gR_uI, rR_ne (by omega), hR a_z (by omega)]⟩⟩
    have eI : ∀ a_z, a_z ≠ b + 1 → gI (uI (uR M1_z (b + 15) 5 (gR M (b + 15) 0)) (b + 1) 4 5) a_z = gI M a_z := fun a_z q0 => by rw [rI_ne q0, gI_uR, k6_z]
    have eR : ∀ a_z, a_z ≠ b + 15 → gR (uI (uR M1_z (b + 15) 5 (gR M (b + 15) 0)) (b + 1) 4 5) a_z = gR M a_z := fun a_z q_z => by rw [gR_uI, rR_ne q_z, hR a_z q_z]
    have sig_z : ∀ i_z : Nat, i_z < 6 → gR (uI (uR M1_z (b + 15) 5 (gR M (b + 15) 0)) (b + 1) 4 5) (b + 15) (i_z : Int) = gR M (b + 15) (if i_z = 5 then 0 else (i_z : Int) + 1) := fun i_z hi_z => by
      rw [gR_uI]
      by_cases c5_z : i_z = 5
      · subst c5_z
        rw [if_pos rfl]
        exact rR_at
      · rw [if_neg c5_z, rR_nk (by omega)]
        exact hx i_z (by omega) (by omega)
    have fin_z := h_z (uI (uR M1_z (b + 15) 5 (gR M (b + 15) 0)) (b + 1) 4 5) oS ?_ ?_
    · rw [B_49_35]
      simp (disch := omega) only [hX1.u, B_49_47, inI, inL, isT, kInt, kByt, true_and, and_true, an_t, im_t, im_f, or_true, true_or, true_imp_iff, false_imp_iff, not_true_eq_false, not_false_eq_true, gK_uI, gK_uL, gK_uR, gK_uCI, gK_uCL, gN_uI, gN_uL, gN_uR, gN_uCI, gN_uCL, gR_uI, gR_uL, gR_uCI, gR_uCL, gI_uL, gI_uR, gI_uCL, gL_uI, gL_uR, gL_uCI, gz_uI, gz_uL, gz_uR, gz_uCI, gz_uCL, gs_uI, gs_uL, gs_uR, gs_uCI, gs_uCL, rI_at, rL_at, rR_at, rI_ne, rL_ne, rR_ne, rI_nk, rL_nk, rR_nk, rI_eq, rL_eq, rR_eq, Option.toList_some, Option.toList_none, List.cons_append, List.nil_append, List.append_nil]
      first | exact fin_z | exact ⟨hp2, fin_z⟩
    · refine hS_z.outS oS ?_ ?_ (fun j_z hj => ?_)
      · show ShX (uR M1_z (b + 15) 5 (gR M (b + 15) 0)) b
        unfold ShX ShXx
        rw [gK_uR, gN_uR, rR_ne (by omega)]
        exact hX1
      · have q_z := s3_z
        unfold ShSa ShSax at q_z ⊢
        rw [oS.1, oS.2.1, eR (b + 10) (by omega)]
        exact q_z
      · have q_z := s4_z j_z hj
        unfold ShSa ShSax at q_z ⊢
        rw [oS.1, oS.2.1, eR (svA b j_z) (by unfold svA; omega)]
        exact q_z
    · have keep_z : ∀ s_z f', EdRow G M s_z f' → PrB M b s_z → (s_z = b + 10 ∨ ∃ j_z, s_z = svA b j_z) → EdRow G (uI (uR M1_z (b + 15) 5 (gR M (b + 15) 0)) (b + 1) 4 5) s_z f' ∧ PrB (uI (uR M1_z (b + 15) 5 (gR M (b + 15) 0)) (b + 1) 4 5) b s_z := fun s_z f' q1_z q2_z q3_z => EdRow.keep q1_z oS q2_z (fun a_z a0_z a1_z => by
        have : a_z ≠ b + 1 ∧ a_z ≠ b + 15 := by
          rcases q3_z with q_z | ⟨j_z, q_z⟩
          · omega
          · unfold svA at q_z
            omega
        exact ⟨eI a_z this.1, eR a_z this.2⟩)
      have k10 := keep_z (b + 10) f_z e5_z e7_z (Or.inl rfl)
      have six : ∀ i_z : Nat, i_z < 6 → ∃ j_z, j_z < 6 ∧ gR M (b + 15) (i_z : Int) = svA b j_z := e3_z
      have idx_z : ∀ i_z : Nat, i_z < 6 → ∃ i2_z : Nat, i2_z < 6 ∧ (if i_z = 5 then (0 : Int) else (i_z : Int) + 1) = (i2_z : Int) ∧ (i2_z = if i_z = 5 then 0 else i_z + 1) := fun i_z hi_z => by
        by_cases c5_z : i_z = 5
        · exact ⟨0, by decide, by rw [if_pos c5_z]; rfl, by rw [if_pos c5_z]⟩
        · exact ⟨i_z + 1, by omega, by rw [if_neg c5_z]; omega, by rw [if_neg c5_z]⟩
      refine ⟨rI_at, by decide, fun i_z hi_z => ?_, fun i_z i' q_z q' y_z => ?_, k10.1, fun i_z hi_z => ?_, k10.2, fun i_z hi_z => ?_⟩
      · rw [sig_z i_z hi_z]
        obtain ⟨i2_z, z1, z2, -⟩ := idx_z i_z hi_z
        rw [z2]
        exact e3_z i2_z z1
      · rw [sig_z i_z q_z, sig_z i' q'] at y_z
        obtain ⟨i2_z, z1, z2, z3⟩ := idx_z i_z q_z
        obtain ⟨i3_z, w1_z, w2_z, w3_z⟩ := idx_z i' q'
        rw [z2, w2_z] at y_z
        have := e4_z i2_z i3_z z1 w1_z y_z
        by_cases c5_z : i_z = 5
        · rw [if_pos c5_z] at z3
          by_cases c6_z : i' = 5
          · omega
          · rw [if_neg c6_z] at w3_z
            omega
        · rw [if_neg c5_z] at z3
          by_cases c6_z : i' = 5
          · rw [if_pos c6_z] at w3_z
            omega
          · rw [if_neg c6_z] at w3_z
            omega
      · rw [sig_z i_z (by omega), if_neg (by omega)]
        obtain ⟨j_z, -, hj⟩ := e3_z (i_z + 1) (by omega)
        have z1 := e6_z (i_z + 1) (by omega)
        have z2 := e8 (i_z + 1) (by omega)
        exact (keep_z _ _ z1 z2 (Or.inr ⟨j_z, hj⟩)).1
      · rw [sig_z i_z (by omega), if_neg (by omega)]
        obtain ⟨j_z, -, hj⟩ := e3_z (i_z + 1) (by omega)
        have z1 := e6_z (i_z + 1) (by omega)
        have z2 := e8 (i_z + 1) (by omega)
        exact (keep_z _ _ z1 z2 (Or.inr ⟨j_z, hj⟩)).2
  rw [E_X_dropOldestState, B_49_0]
  simp (disch := omega) only [s1_z.u, inI, inL, isT, kInt, kByt, true_and, and_true, an_t, im_t, im_f, or_true, true_or, true_imp_iff, false_imp_iff, not_true_eq_false, not_false_eq_true, gK_uI, gK_uL, gK_uR, gK_uCI, gK_uCL, gN_uI, gN_uL, gN_uR, gN_uCI, gN_uCL, gR_uI, gR_uL, gR_uCI, gR_uCL, gI_uL, gI_uR, gI_uCL, gL_uI, gL_uR, gL_uCI, gz_uI, gz_uL, gz_uR, gz_uCI, gz_uCL, gs_uI, gs_uL, gs_uR, gs_uCI, gs_uCL, rI_at, rL_at, rR_at, rI_ne, rL_ne, rR_ne, rI_nk, rL_nk, rR_nk, rI_eq, rL_eq, rR_eq]
  all_goals exact lp
/-- the number of saved states behind a change -/
def svN (n_z : Nat) : Nat := if n_z = 6 then 6 else n_z + 1
/-- the saved rows behind a change -/
def svP (n_z : Nat) (ps_z : Nat → Int → Int) (f_z : Int → Int) : Nat → Int → Int := if n_z = 6 then psA (fun i_z => ps_z (i_z + 1)) 5 f_z else psA ps_z n_z f_z
theorem X_saveState {n_z : Nat} {f_z : Int → Int} {ps_z : Nat → Int → Int} (hS_z : ClS G M b) (hE : ClE G M b n_z f_z ps_z) (h_z : ∀ M', OutS b M M' → ClS G M' b → ClE G M' b (svN n_z) f_z (svP n_z ps_z f_z) → Q none M') : Call G J_X_saveState [a_r (b + 1)] M Q := by
  have s1_z := hS_z.1
  have e1_z := hE.1
  have e2_z := hE.2.1
  by_cases c6_z : n_z = 6
  · subst c6_z
    have dr : Call G J_X_dropOldestState [a_r (b + 1)] M (fun q_z M2_z => At G 48 13 [a_r (b + 1)] q_z.toList M2_z Q) := by
      refine X_drop hS_z hE (fun M1_z o1 hS1 hE1 => ?_)
      exact save_at hS1 hE1 (by decide) (fun M2_z o2 hS2 hE2 => h_z M2_z (o1.trans o2) hS2 (by unfold svN svP; rw [if_pos rfl, if_pos rfl]; exact hE2))
    have q6_z : ¬ ((6 : Nat) : Int) < 6 := by decide
    rw [E_X_saveState, B_48_0, e1_z]
    refine ⟨s1_z.1, fun q_z => absurd q_z q6_z, fun _ => ⟨s1_z.1, ?_⟩⟩
    simp only [List.append_nil]
    exact dr
  · have fin_z := save_at (Q := Q) hS_z hE (by omega) (fun M2_z o2 hS2 hE2 => h_z M2_z o2 hS2 (by unfold svN svP; rw [if_neg c6_z, if_neg c6_z]; exact hE2))
    rw [E_X_saveState, B_48_0, e1_z]
    exact ⟨s1_z.1, fun _ => fin_z, fun q_z => by omega⟩
end CD
