/-! THE PURE PART, part 11: places and rectangles of the model. Own work. -/
/-- a device coordinate (0 x_z, 1 y_z), 16001: too far -/
def dv (mt_z : Int → Int) (x_z y_z c_z : Int) : Int := six (fsum mt_z x_z y_z c_z (c_z + 2) (c_z + 4))
theorem six_m1 : six (-1) = 16001 := if_pos rfl
theorem dv_m1 (mt_z : Int → Int) (y_z c_z : Int) (hc_z : 0 ≤ c_z) : dv mt_z (-1) y_z c_z = 16001 := by
  unfold dv fsum
  rw [if_neg (by omega), fM_m1, fS_m1, fS_m1, six_m1]
theorem dv_m2 (mt_z : Int → Int) (x_z c_z : Int) (hc_z : 0 ≤ c_z) : dv mt_z x_z (-1) c_z = 16001 := by
  unfold dv fsum
  rw [if_neg (by omega), fM_m1, fS_m2, fS_m1, six_m1]
/-- two numbers x_z and y_z as the model hands them on -/
def CI (M_z : Mem) (m_z : Nat) (x_z y_z a_z b_z c_z d_z : Int) : Prop := (gI M_z m_z 16 = 0 ∧ NV x_z ∧ NV y_z ∧ a_z = fu x_z ∧ b_z = fd x_z ∧ c_z = fu y_z ∧ d_z = fd y_z) ∨ (gI M_z m_z 16 = 1 ∧ 0 < b_z ∧ 0 < d_z ∧ ((a_z.natAbs ≤ 2000000000000 ∧ b_z ≤ 1000000000000 ∧ c_z.natAbs ≤ 1000000 ∧ d_z ≤ 1000000) ∨ (a_z.natAbs ≤ 1000000 ∧ b_z ≤ 1000000 ∧ c_z.natAbs ≤ 2000000000000 ∧ d_z ≤ 1000000000000)))
/-- the same but for sums and places -/
def Sd (M_z M' : Mem) (m_z : Nat) : Prop := gK M' = gK M_z ∧ gN M' = gN M_z ∧ gR M' = gR M_z ∧ gz M' = gz M_z ∧ gs M' = gs M_z ∧ (∀ (r_z : Nat) (k_z : Int), (r_z = m_z → k_z ≠ 16 ∧ k_z ≠ 20 ∧ k_z ≠ 21) → gI M' r_z k_z = gI M_z r_z k_z) ∧ (∀ r_z : Nat, r_z ≠ m_z → gL M' r_z = gL M_z r_z)
theorem Sd.refl (M_z : Mem) (m_z : Nat) : Sd M_z M_z m_z := ⟨rfl, rfl, rfl, rfl, rfl, fun _ _ _ => rfl, fun _ _ => rfl⟩
theorem Sd.trans {M_z M' M'' : Mem} {m_z : Nat} (h_z : Sd M_z M' m_z) (h2 : Sd M' M'' m_z) : Sd M_z M'' m_z := by
  obtain ⟨a1_z, a2, a3, a4, a5, a6, a7⟩ := h_z
  obtain ⟨b1, b2, b3, b4, b5, b6, b7⟩ := h2
  exact ⟨b1.trans a1_z, b2.trans a2, b3.trans a3, b4.trans a4, b5.trans a5, fun r_z k_z q1_z => (b6 r_z k_z q1_z).trans (a6 r_z k_z q1_z), fun r_z q_z => (b7 r_z q_z).trans (a7 r_z q_z)⟩
theorem Sd.uL {M_z M' : Mem} {m_z : Nat} (h_z : Sd M_z M' m_z) (k_z v_z : Int) : Sd M_z (uL M' m_z k_z v_z) m_z := by
  obtain ⟨a1_z, a2, a3, a4, a5, a6, a7⟩ := h_z
  exact ⟨a1_z, a2, a3, a4, a5, a6, fun r_z q_z => by rw [rL_ne q_z]; exact a7 r_z q_z⟩
theorem Sd.uI {M_z M' : Mem} {m_z : Nat} {k_z : Int} (h_z : Sd M_z M' m_z) (v_z : Int) (hr : k_z = 16 ∨ k_z = 20 ∨ k_z = 21) : Sd M_z (uI M' m_z k_z v_z) m_z := by
  obtain ⟨a1_z, a2, a3, a4, a5, a6, a7⟩ := h_z
  refine ⟨a1_z, a2, a3, a4, a5, fun a_z j_z q1_z => ?_, a7⟩
  rw [← a6 a_z j_z q1_z, gI_uI]
  refine if_neg (fun c_z => ?_)
  obtain ⟨c1_z, c2_z⟩ := c_z
  have := q1_z c1_z
  omega
theorem Sd.row {M_z M' : Mem} {m_z r_z : Nat} (h_z : Sd M_z M' m_z) (hr : r_z ≠ m_z) : gI M' r_z = gI M_z r_z := by
  funext k
  exact h_z.2.2.2.2.2.1 r_z k (fun q_z => absurd q_z hr)
theorem Sd.fld {M_z M' : Mem} {m_z : Nat} {k_z : Int} (h_z : Sd M_z M' m_z) (hk : k_z ≠ 16 ∧ k_z ≠ 20 ∧ k_z ≠ 21) : gI M' m_z k_z = gI M_z m_z k_z := h_z.2.2.2.2.2.1 m_z k_z (fun _ => hk)
theorem Sx.sd {M_z M' : Mem} {m_z : Nat} (h_z : Sx M_z M' m_z) : Sd M_z M' m_z := by
  obtain ⟨a1_z, a2, a3, a4, a5, a6, a7⟩ := h_z
  exact ⟨a1_z, a2, a3, a4, a5, fun r_z k_z q_z => a6 r_z k_z (fun e_z => (q_z e_z).1), a7⟩
theorem Sd.sh {M_z M' : Mem} {m_z : Nat} (h_z : Sd M_z M' m_z) (hs : ShM M_z m_z) : ShM M' m_z := by
  obtain ⟨a1_z, a2, a3, a4, a5, a6, a7⟩ := h_z
  unfold ShM ShMx
  rw [a1_z, a2, a3]
  exact hs
theorem GV.sd {M_z M' : Mem} {m_z : Nat} {mt_z : Int → Int} (h_z : GV M_z m_z mt_z) (s_z : Sd M_z M' m_z) : GV M' m_z mt_z := fun i_z h1 h2 => by
  obtain ⟨g1, g2, g3_z⟩ := h_z i_z h1 h2
  rw [s_z.row (by omega)]
  exact ⟨g1, g2, g3_z⟩
section MC
variable {G : Env0} {Q : Option AV → Mem → Prop} {M : Mem} {m : Nat} {mt : Int → Int}
/-- one coordinate -/
theorem X_coord {x_z y_z a_z b_z c_z d_z i_z j_z t_z : Int} (hs : ShM M m) (hg : GV M m mt) (hin : CI M m x_z y_z a_z b_z c_z d_z) (i0_z : 0 ≤ i_z) (i1_z : i_z < 6) (j0 : 0 ≤ j_z) (j1 : j_z < 6) (t0_z : 0 ≤ t_z) (t1_z : t_z < 6) (h_z : ∀ M1_z, Sx M M1_z m → ((gI M m 16 = 0 ∧ A3 M1_z m (fsum mt x_z y_z i_z j_z t_z)) ∨ (gI M m 16 = 1 ∧ A3 M1_z m (-1))) → Q none M1_z) : Call G J_M_sum [a_r m, a_l a_z, a_l b_z, a_i i_z, a_l c_z, a_l d_z, a_i j_z, a_i t_z] M Q := by
  rcases hin with ⟨f_z, n1_z, n2_z, e1_z, e2_z, e3_z, e4_z⟩ | ⟨f_z, p1_z, p2_z, hb_z⟩
  · subst e1_z e2_z e3_z e4_z
    exact X_sum0 hs hg f_z n1_z n2_z i0_z i1_z j0 j1 (by omega) t1_z (fun M1_z s1_z a1_z => h_z M1_z s1_z (Or.inl ⟨f_z, a1_z⟩))
  · rcases hb_z with ⟨b1, b2, b3, b4⟩ | ⟨b1, b2, b3, b4⟩
    · exact X_sum1 (A_z := 2000000000000) (B_z := 1000000000000) (C_z := 1000000) (D_z := 1000000) hs hg f_z (by omega) (by omega) (by omega) (by omega) (Or.inl ⟨rfl, rfl, rfl, rfl⟩) i0_z i1_z j0 j1 (by omega) t1_z (fun M1_z s1_z f1_z u1_z d1_z => h_z M1_z s1_z (Or.inr ⟨f_z, Or.inr ⟨f1_z, rfl, by omega, by omega, by omega⟩⟩))
    · exact X_sum1 (A_z := 1000000) (B_z := 1000000) (C_z := 2000000000000) (D_z := 1000000000000) hs hg f_z (by omega) (by omega) (by omega) (by omega) (Or.inr ⟨rfl, rfl, rfl, rfl⟩) i0_z i1_z j0 j1 (by omega) t1_z (fun M1_z s1_z f1_z u1_z d1_z => h_z M1_z s1_z (Or.inr ⟨f_z, Or.inr ⟨f1_z, rfl, by omega, by omega, by omega⟩⟩))
/-- what device leaves -/
def DvO (M_z M' : Mem) (m_z : Nat) (vx vy : Int) : Prop := (gI M' m_z 16 = 0 ∧ gI M_z m_z 16 = 0 ∧ vx ≠ 16001 ∧ vy ≠ 16001 ∧ gI M' m_z 20 = vx ∧ gI M' m_z 21 = vy) ∨ (gI M' m_z 16 = 1 ∧ (gI M_z m_z 16 = 1 ∨ vx = 16001 ∨ vy = 16001))
theorem X_device {x_z y_z a_z b_z c_z d_z : Int} (hs : ShM M m) (hg : GV M m mt) (hin : CI M m x_z y_z a_z b_z c_z d_z) (h_z : ∀ M', Sd M M' m → DvO M M' m (dv mt x_z y_z 0) (dv mt x_z y_z 1) → Q none M') : Call G J_M_device [a_r m, a_l a_z, a_l b_z, a_l c_z, a_l d_z] M Q := by
  rw [E_M_device, B_220_0]
  refine ⟨hs.1, X_coord hs hg hin (by omega) (by omega) (by omega) (by omega) (by omega) (by omega) (fun M1_z s1_z a1_z => ?_)⟩
  have hs1 := s1_z.sh hs
  simp only [Option.toList_some, Option.toList_none, List.cons_append, List.nil_append, List.append_nil]
  rw [B_220_13]
  refine ⟨hs1.1, ?_⟩
  have key_z : ∃ v_z, A3 M1_z m v_z ∧ ((gI M m 16 = 0 ∧ v_z = fsum mt x_z y_z 0 2 4) ∨ (gI M m 16 = 1 ∧ v_z = -1)) := by
    rcases a1_z with ⟨f_z, a1_z⟩ | ⟨f_z, a1_z⟩
    · exact ⟨_, a1_z, Or.inl ⟨f_z, rfl⟩⟩
    · exact ⟨_, a1_z, Or.inr ⟨f_z, rfl⟩⟩
  obtain ⟨v_z, av, hv⟩ := key_z
  refine X_six hs1 av (fun M2_z x2_z s2_z o2 => ?_)
  have hs2 := s2_z.sh hs1
  simp only [Option.toList_some, Option.toList_none, List.cons_append, List.nil_append, List.append_nil]
  rw [B_220_18]
  refine ⟨hs2.1, hs2.1, ?_⟩
  have s3_z : Sd M (uI M2_z m 20 x2_z) m := (s1_z.trans s2_z).sd.uI _ (Or.inr (Or.inl rfl))
  have f3_z : gI (uI M2_z m 20 x2_z) m 16 = gI M2_z m 16 := by simp (disch := omega) only [gK_uI, gK_uL, gK_uR, gK_uCI, gK_uCL, gN_uI, gN_uL, gN_uR, gN_uCI, gN_uCL, gR_uI, gR_uL, gR_uCI, gR_uCL, gI_uL, gI_uR, gI_uCL, gL_uI, gL_uR, gL_uCI, gz_uI, gz_uL, gz_uR, gz_uCI, gz_uCL, gs_uI, gs_uL, gs_uR, gs_uCI, gs_uCL, rI_at, rL_at, rR_at, rI_ne, rL_ne, rR_ne, rI_nk, rL_nk, rR_nk, rI_eq, rL_eq, rR_eq]
  have hin3 : CI (uI M2_z m 20 x2_z) m x_z y_z a_z b_z c_z d_z := by
    unfold CI
    rw [f3_z]
    rcases o2 with ⟨o1, o2, o3_z⟩ | ⟨o1, o2⟩
    · rcases hin with hin | hin
      · exact Or.inl ⟨o1, hin.2⟩
      · rcases hv with ⟨q_z, hv⟩ | ⟨q_z, hv⟩
        · exact absurd hin.1 (by omega)
        · rw [hv, six_m1] at o2
          exact absurd rfl o2
    · rcases hin with ⟨f_z, n1_z, n2_z, e1_z, e2_z, e3_z, e4_z⟩ | hin
      · have c1_z := nv_u n1_z
        have c2_z := nv_u n2_z
        obtain ⟨-, -, c3_z, c4_z⟩ := n1_z
        obtain ⟨-, -, c5_z, c6_z⟩ := n2_z
        exact Or.inr ⟨o1, by omega, by omega, Or.inl ⟨by omega, by omega, by omega, by omega⟩⟩
      · exact Or.inr ⟨o1, hin.2⟩
  refine X_coord (s3_z.sh hs) (hg.sd s3_z) hin3 (by omega) (by omega) (by omega) (by omega) (by omega) (by omega) (fun M4_z s4_z a4 => ?_)
  rw [f3_z] at a4
  have hs4 := s4_z.sh (s3_z.sh hs)
  simp only [Option.toList_some, Option.toList_none, List.cons_append, List.nil_append, List.append_nil]
  rw [B_220_34]
  refine ⟨hs4.1, ?_⟩
  have key4 : ∃ w_z, A3 M4_z m w_z ∧ ((gI M2_z m 16 = 0 ∧ w_z = fsum mt x_z y_z 1 3 5) ∨ (gI M2_z m 16 = 1 ∧ w_z = -1)) := by
    rcases a4 with ⟨f_z, a1_z⟩ | ⟨f_z, a1_z⟩
    · exact ⟨_, a1_z, Or.inl ⟨f_z, rfl⟩⟩
    · exact ⟨_, a1_z, Or.inr ⟨f_z, rfl⟩⟩
  obtain ⟨w_z, aw, hw⟩ := key4
  refine X_six hs4 aw (fun M5_z x5_z s5 o5_z => ?_)
  have hs5 := s5.sh hs4
  simp only [Option.toList_some, Option.toList_none, List.cons_append, List.nil_append, List.append_nil]
  rw [B_220_39]
  refine ⟨hs5.1, h_z _ ((s3_z.trans (s4_z.trans s5).sd).uI _ (Or.inr (Or.inr rfl))) ?_⟩
  have f6_z : gI (uI M5_z m 21 x5_z) m 16 = gI M5_z m 16 := by simp (disch := omega) only [gK_uI, gK_uL, gK_uR, gK_uCI, gK_uCL, gN_uI, gN_uL, gN_uR, gN_uCI, gN_uCL, gR_uI, gR_uL, gR_uCI, gR_uCL, gI_uL, gI_uR, gI_uCL, gL_uI, gL_uR, gL_uCI, gz_uI, gz_uL, gz_uR, gz_uCI, gz_uCL, gs_uI, gs_uL, gs_uR, gs_uCI, gs_uCL, rI_at, rL_at, rR_at, rI_ne, rL_ne, rR_ne, rI_nk, rL_nk, rR_nk, rI_eq, rL_eq, rR_eq]
  have f7_z : gI (uI M5_z m 21 x5_z) m 20 = gI M5_z m 20 := by simp (disch := omega) only [gK_uI, gK_uL, gK_uR, gK_uCI, gK_uCL, gN_uI, gN_uL, gN_uR, gN_uCI, gN_uCL, gR_uI, gR_uL, gR_uCI, gR_uCL, gI_uL, gI_uR, gI_uCL, gL_uI, gL_uR, gL_uCI, gz_uI, gz_uL, gz_uR, gz_uCI, gz_uCL, gs_uI, gs_uL, gs_uR, gs_uCI, gs_uCL, rI_at, rL_at, rR_at, rI_ne, rL_ne, rR_ne, rI_nk, rL_nk, rR_nk, rI_eq, rL_eq, rR_eq]
  have f9_z : gI M5_z m 20 = x2_z := by
    rw [(s4_z.trans s5).fld (by decide)]
    simp (disch := omega) only [gK_uI, gK_uL, gK_uR, gK_uCI, gK_uCL, gN_uI, gN_uL, gN_uR, gN_uCI, gN_uCL, gR_uI, gR_uL, gR_uCI, gR_uCL, gI_uL, gI_uR, gI_uCL, gL_uI, gL_uR, gL_uCI, gz_uI, gz_uL, gz_uR, gz_uCI, gz_uCL, gs_uI, gs_uL, gs_uR, gs_uCI, gs_uCL, rI_at, rL_at, rR_at, rI_ne, rL_ne, rR_ne, rI_nk, rL_nk, rR_nk, rI_eq, rL_eq, rR_eq]
  have f8_z : gI (uI M5_z m 21 x5_z) m 21 = x5_z := by simp (disch := omega) only [gK_uI, gK_uL, gK_uR, gK_uCI, gK_uCL, gN_uI, gN_uL, gN_uR, gN_uCI, gN_uCL, gR_uI, gR_uL, gR_uCI, gR_uCL, gI_uL, gI_uR, gI_uCL, gL_uI, gL_uR, gL_uCI, gz_uI, gz_uL, gz_uR, gz_uCI, gz_uCL, gs_uI, gs_uL, gs_uR, gs_uCI, gs_uCL, rI_at, rL_at, rR_at, rI_ne, rL_ne, rR_ne, rI_nk, rL_nk, rR_nk, rI_eq, rL_eq, rR_eq]
  unfold DvO
  rw [f6_z, f7_z, f8_z, f9_z]
  have g1 : dv mt x_z y_z 0 = six (fsum mt x_z y_z 0 2 4) := rfl
  have g2 : dv mt x_z y_z 1 = six (fsum mt x_z y_z 1 3 5) := rfl
  rw [g1, g2]
  rcases o5_z with ⟨o5_z, o6, o7⟩ | ⟨o5_z, o6⟩
  · rcases hw with ⟨q_z, hw⟩ | ⟨q_z, hw⟩
    · rcases o2 with ⟨o1, o2, o3_z⟩ | ⟨o1, o2⟩
      · rcases hv with ⟨q2_z, hv⟩ | ⟨q2_z, hv⟩
        · rw [hv] at o2 o3_z
          rw [hw] at o6 o7
          exact Or.inl ⟨o5_z, q2_z, o2, o6, o3_z, o7⟩
        · rw [hv, six_m1] at o2
          exact absurd rfl o2
      · omega
    · rw [hw, six_m1] at o6
      exact absurd rfl o6
  · rcases hw with ⟨q_z, hw⟩ | ⟨q_z, hw⟩
    · rw [hw] at o6
      exact Or.inr ⟨o5_z, Or.inr (Or.inr o6)⟩
    · rcases o2 with ⟨o1, o2, o3_z⟩ | ⟨o1, o2⟩
      · omega
      · rcases hv with ⟨q2_z, hv⟩ | ⟨q2_z, hv⟩
        · rw [hv] at o2
          exact Or.inr ⟨o5_z, Or.inr (Or.inl o2)⟩
        · exact Or.inr ⟨o5_z, Or.inl q2_z⟩
end MC
