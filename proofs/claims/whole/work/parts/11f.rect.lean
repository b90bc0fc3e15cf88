/-! THE PURE PART, part 11: rectangles and products of matrices in the model. Own work. -/
/-- the same but for what is computed ahead of an operator -/
def Sy (M_z M' : Mem) (m_z : Nat) : Prop := gK M' = gK M_z ∧ gN M' = gN M_z ∧ gR M' = gR M_z ∧ gz M' = gz M_z ∧ gs M' = gs M_z ∧ (∀ (r_z : Nat) (k_z : Int), (r_z = m_z → k_z ≠ 16 ∧ k_z ≠ 20 ∧ k_z ≠ 21) → r_z ≠ m_z + 26 → r_z ≠ m_z + 27 → r_z ≠ m_z + 28 → gI M' r_z k_z = gI M_z r_z k_z) ∧ (∀ r_z : Nat, r_z ≠ m_z → gL M' r_z = gL M_z r_z)
theorem Sy.refl (M_z : Mem) (m_z : Nat) : Sy M_z M_z m_z := ⟨rfl, rfl, rfl, rfl, rfl, fun _ _ _ _ _ _ => rfl, fun _ _ => rfl⟩
theorem Sy.trans {M_z M' M'' : Mem} {m_z : Nat} (h_z : Sy M_z M' m_z) (h2 : Sy M' M'' m_z) : Sy M_z M'' m_z := by
  obtain ⟨a1_z, a2, a3, a4, a5, a6, a7⟩ := h_z
  obtain ⟨b1, b2, b3, b4, b5, b6, b7⟩ := h2
  exact ⟨b1.trans a1_z, b2.trans a2, b3.trans a3, b4.trans a4, b5.trans a5, fun r_z k_z q1_z q2_z q3_z q4_z => (b6 r_z k_z q1_z q2_z q3_z q4_z).trans (a6 r_z k_z q1_z q2_z q3_z q4_z), fun r_z q_z => (b7 r_z q_z).trans (a7 r_z q_z)⟩
theorem Sy.uI {M_z M' : Mem} {m_z r_z : Nat} {k_z : Int} (h_z : Sy M_z M' m_z) (v_z : Int) (hr : (r_z = m_z ∧ (k_z = 16 ∨ k_z = 20 ∨ k_z = 21)) ∨ r_z = m_z + 26 ∨ r_z = m_z + 27 ∨ r_z = m_z + 28) : Sy M_z (uI M' r_z k_z v_z) m_z := by
  obtain ⟨a1_z, a2, a3, a4, a5, a6, a7⟩ := h_z
  refine ⟨a1_z, a2, a3, a4, a5, fun a_z j_z q1_z q2_z q3_z q4_z => ?_, a7⟩
  rw [← a6 a_z j_z q1_z q2_z q3_z q4_z, gI_uI]
  refine if_neg (fun c_z => ?_)
  obtain ⟨c1_z, c2_z⟩ := c_z
  rcases hr with ⟨e1_z, e2_z⟩ | e1_z | e1_z | e1_z
  · have := q1_z (by omega)
    omega
  · omega
  · omega
  · omega
theorem Sd.sy {M_z M' : Mem} {m_z : Nat} (h_z : Sd M_z M' m_z) : Sy M_z M' m_z := by
  obtain ⟨a1_z, a2, a3, a4, a5, a6, a7⟩ := h_z
  exact ⟨a1_z, a2, a3, a4, a5, fun r_z k_z q_z _ _ _ => a6 r_z k_z q_z, a7⟩
theorem Sy.uL {M_z M' : Mem} {m_z : Nat} (h_z : Sy M_z M' m_z) (k_z v_z : Int) : Sy M_z (uL M' m_z k_z v_z) m_z := by
  obtain ⟨a1_z, a2, a3, a4, a5, a6, a7⟩ := h_z
  exact ⟨a1_z, a2, a3, a4, a5, a6, fun r_z q_z => by rw [rL_ne q_z]; exact a7 r_z q_z⟩
theorem Sy.sh {M_z M' : Mem} {m_z : Nat} (h_z : Sy M_z M' m_z) (hs : ShM M_z m_z) : ShM M' m_z := by
  obtain ⟨a1_z, a2, a3, a4, a5, a6, a7⟩ := h_z
  unfold ShM ShMx
  rw [a1_z, a2, a3]
  exact hs
theorem Sy.row {M_z M' : Mem} {m_z r_z : Nat} (h_z : Sy M_z M' m_z) (h0 : r_z ≠ m_z) (h1 : r_z ≠ m_z + 26) (h2 : r_z ≠ m_z + 27) (h3 : r_z ≠ m_z + 28) : gI M' r_z = gI M_z r_z := by
  funext k
  exact h_z.2.2.2.2.2.1 r_z k (fun q_z => absurd q_z h0) h1 h2 h3
theorem Sy.fld {M_z M' : Mem} {m_z : Nat} {k_z : Int} (h_z : Sy M_z M' m_z) (hk : k_z ≠ 16 ∧ k_z ≠ 20 ∧ k_z ≠ 21) : gI M' m_z k_z = gI M_z m_z k_z := h_z.2.2.2.2.2.1 m_z k_z (fun _ => hk) (by omega) (by omega) (by omega)
theorem GV.sy {M_z M' : Mem} {m_z : Nat} {mt_z : Int → Int} (h_z : GV M_z m_z mt_z) (s_z : Sy M_z M' m_z) : GV M' m_z mt_z := fun i_z h1 h2 => by
  obtain ⟨g1, g2, g3_z⟩ := h_z i_z h1 h2
  rw [s_z.row (by omega) (by omega) (by omega) (by omega)]
  exact ⟨g1, g2, g3_z⟩
/-- a level and its operands in the model -/
def LvM (M_z : Mem) (m_z : Nat) : Prop := 0 ≤ gI M_z m_z 36 ∧ gI M_z m_z 36 < 5 ∧ 0 ≤ gI M_z (m_z + 19) (gI M_z m_z 36) ∧ gI M_z (m_z + 19) (gI M_z m_z 36) ≤ 16
/-- the place of an operand from the top -/
def tpM (M_z : Mem) (m_z : Nat) (k_z : Int) : Int := 16 * gI M_z m_z 36 + gI M_z (m_z + 19) (gI M_z m_z 36) - 1 - k_z
/-- operand k_z from the top is v_z -/
def OpM (M_z : Mem) (m_z : Nat) (k_z v_z : Int) : Prop := gI M_z (m_z + 20) (tpM M_z m_z k_z) = fu v_z ∧ gI M_z (m_z + 21) (tpM M_z m_z k_z) = fd v_z
theorem LvM.sy {M_z M' : Mem} {m_z : Nat} (h_z : LvM M_z m_z) (s_z : Sy M_z M' m_z) : LvM M' m_z := by
  unfold LvM
  rw [s_z.row (r_z := m_z + 19) (by omega) (by omega) (by omega) (by omega), s_z.fld (by decide)]
  exact h_z
theorem tpM_sy {M_z M' : Mem} {m_z : Nat} {k_z : Int} (s_z : Sy M_z M' m_z) : tpM M' m_z k_z = tpM M_z m_z k_z := by
  unfold tpM
  rw [s_z.row (r_z := m_z + 19) (by omega) (by omega) (by omega) (by omega), s_z.fld (by decide)]
theorem OpM.sy {M_z M' : Mem} {m_z : Nat} {k_z v_z : Int} (h_z : OpM M_z m_z k_z v_z) (s_z : Sy M_z M' m_z) : OpM M' m_z k_z v_z := by
  unfold OpM
  rw [tpM_sy s_z, s_z.row (r_z := m_z + 20) (by omega) (by omega) (by omega) (by omega), s_z.row (r_z := m_z + 21) (by omega) (by omega) (by omega) (by omega)]
  exact h_z
section MD
variable {G : Env0} {Q : Option AV → Mem → Prop} {M : Mem} {m : Nat} {mt : Int → Int}
theorem X_top {k_z : Int} (hs : ShM M m) (hl : LvM M m) (h1 : -20 ≤ k_z) (h2 : k_z ≤ 20) : Call G J_M_top [a_r m, a_i k_z] M Q ↔ Q (some (a_i (tpM M m k_z))) M := by
  obtain ⟨l1, l2, l3, l4⟩ := hl
  unfold tpM
  simp (disch := omega) only [E_M_top, B_204_0, hs.u, inI, inL, isT, kInt, kByt, true_and, and_true, an_t, im_t, im_f, or_true, true_or, true_imp_iff, false_imp_iff, not_true_eq_false, not_false_eq_true, gK_uI, gK_uL, gK_uR, gK_uCI, gK_uCL, gN_uI, gN_uL, gN_uR, gN_uCI, gN_uCL, gR_uI, gR_uL, gR_uCI, gR_uCL, gI_uL, gI_uR, gI_uCL, gL_uI, gL_uR, gL_uCI, gz_uI, gz_uL, gz_uR, gz_uCI, gz_uCL, gs_uI, gs_uL, gs_uR, gs_uCI, gs_uCL, rI_at, rL_at, rR_at, rI_ne, rL_ne, rR_ne, rI_nk, rL_nk, rR_nk, rI_eq, rL_eq, rR_eq]
/-- good and bad corners -/
def DvC (M_z M' : Mem) (m_z : Nat) (k_z vx vy : Int) : Prop := (gI M' m_z 16 = 0 ∧ gI M_z m_z 16 = 0 ∧ vx ≠ 16001 ∧ vy ≠ 16001 ∧ gI M' (m_z + 27) k_z = vx ∧ gI M' (m_z + 28) k_z = vy) ∨ (gI M' m_z 16 = 1 ∧ (gI M_z m_z 16 = 1 ∨ vx = 16001 ∨ vy = 16001))
theorem X_corner {k_z x_z y_z a_z b_z c_z d_z : Int} (hs : ShM M m) (hg : GV M m mt) (hk : 0 ≤ k_z ∧ k_z < 4) (hin : CI M m x_z y_z a_z b_z c_z d_z) (h_z : ∀ M', Sy M M' m → (∀ j_z, j_z ≠ k_z → gI M' (m + 27) j_z = gI M (m + 27) j_z ∧ gI M' (m + 28) j_z = gI M (m + 28) j_z) → DvC M M' m k_z (dv mt x_z y_z 0) (dv mt x_z y_z 1) → Q none M') : Call G J_M_corner [a_r m, a_i k_z, a_l a_z, a_l b_z, a_l c_z, a_l d_z] M Q := by
  rw [E_M_corner, B_225_0]
  refine ⟨hs.1, X_device hs hg hin (fun M1_z s1_z o1 => ?_)⟩
  have hs1 := s1_z.sh hs
  have e1_z : gI M1_z (m + 27) = gI M (m + 27) := s1_z.row (by omega)
  have e2_z : gI M1_z (m + 28) = gI M (m + 28) := s1_z.row (by omega)
  have hh := h_z (uI (uI M1_z (m + 27) k_z (gI M1_z m 20)) (m + 28) k_z (gI M1_z m 21)) ((s1_z.sy.uI _ (Or.inr (Or.inr (Or.inl rfl)))).uI _ (Or.inr (Or.inr (Or.inr rfl)))) (fun j_z hj => ⟨by simp (disch := omega) only [gK_uI, gK_uL, gK_uR, gK_uCI, gK_uCL, gN_uI, gN_uL, gN_uR, gN_uCI, gN_uCL, gR_uI, gR_uL, gR_uCI, gR_uCL, gI_uL, gI_uR, gI_uCL, gL_uI, gL_uR, gL_uCI, gz_uI, gz_uL, gz_uR, gz_uCI, gz_uCL, gs_uI, gs_uL, gs_uR, gs_uCI, gs_uCL, rI_at, rL_at, rR_at, rI_ne, rL_ne, rR_ne, rI_nk, rL_nk, rR_nk, rI_eq, rL_eq, rR_eq, e1_z], by simp (disch := omega) only [gK_uI, gK_uL, gK_uR, gK_uCI, gK_uCL, gN_uI, gN_uL, gN_uR, gN_uCI, gN_uCL, gR_uI, gR_uL, gR_uCI, gR_uCL, gI_uL, gI_uR, gI_uCL, gL_uI, gL_uR, gL_uCI, gz_uI, gz_uL, gz_uR, gz_uCI, gz_uCL, gs_uI, gs_uL, gs_uR, gs_uCI, gs_uCL, rI_at, rL_at, rR_at, rI_ne, rL_ne, rR_ne, rI_nk, rL_nk, rR_nk, rI_eq, rL_eq, rR_eq, e2_z]⟩) (by
    unfold DvC
    have g1 : gI (uI (uI M1_z (m + 27) k_z (gI M1_z m 20)) (m + 28) k_z (gI M1_z m 21)) m 16 = gI M1_z m 16 := by simp (disch := omega) only [gK_uI, gK_uL, gK_uR, gK_uCI, gK_uCL, gN_uI, gN_uL, gN_uR, gN_uCI, gN_uCL, gR_uI, gR_uL, gR_uCI, gR_uCL, gI_uL, gI_uR, gI_uCL, gL_uI, gL_uR, gL_uCI, gz_uI, gz_uL, gz_uR, gz_uCI, gz_uCL, gs_uI, gs_uL, gs_uR, gs_uCI, gs_uCL, rI_at, rL_at, rR_at, rI_ne, rL_ne, rR_ne, rI_nk, rL_nk, rR_nk, rI_eq, rL_eq, rR_eq]
    have g2 : gI (uI (uI M1_z (m + 27) k_z (gI M1_z m 20)) (m + 28) k_z (gI M1_z m 21)) (m + 27) k_z = gI M1_z m 20 := by simp (disch := omega) only [gK_uI, gK_uL, gK_uR, gK_uCI, gK_uCL, gN_uI, gN_uL, gN_uR, gN_uCI, gN_uCL, gR_uI, gR_uL, gR_uCI, gR_uCL, gI_uL, gI_uR, gI_uCL, gL_uI, gL_uR, gL_uCI, gz_uI, gz_uL, gz_uR, gz_uCI, gz_uCL, gs_uI, gs_uL, gs_uR, gs_uCI, gs_uCL, rI_at, rL_at, rR_at, rI_ne, rL_ne, rR_ne, rI_nk, rL_nk, rR_nk, rI_eq, rL_eq, rR_eq]
    have g3_z : gI (uI (uI M1_z (m + 27) k_z (gI M1_z m 20)) (m + 28) k_z (gI M1_z m 21)) (m + 28) k_z = gI M1_z m 21 := by simp (disch := omega) only [gK_uI, gK_uL, gK_uR, gK_uCI, gK_uCL, gN_uI, gN_uL, gN_uR, gN_uCI, gN_uCL, gR_uI, gR_uL, gR_uCI, gR_uCL, gI_uL, gI_uR, gI_uCL, gL_uI, gL_uR, gL_uCI, gz_uI, gz_uL, gz_uR, gz_uCI, gz_uCL, gs_uI, gs_uL, gs_uR, gs_uCI, gs_uCL, rI_at, rL_at, rR_at, rI_ne, rL_ne, rR_ne, rI_nk, rL_nk, rR_nk, rI_eq, rL_eq, rR_eq]
    rw [g1, g2, g3_z]
    exact o1)
  simp (disch := omega) only [B_225_11, B_225_31, hs1.u, inI, inL, isT, kInt, kByt, true_and, and_true, an_t, im_t, im_f, or_true, true_or, true_imp_iff, false_imp_iff, not_true_eq_false, not_false_eq_true, gK_uI, gK_uL, gK_uR, gK_uCI, gK_uCL, gN_uI, gN_uL, gN_uR, gN_uCI, gN_uCL, gR_uI, gR_uL, gR_uCI, gR_uCL, gI_uL, gI_uR, gI_uCL, gL_uI, gL_uR, gL_uCI, gz_uI, gz_uL, gz_uR, gz_uCI, gz_uCL, gs_uI, gs_uL, gs_uR, gs_uCI, gs_uCL, rI_at, rL_at, rR_at, rI_ne, rL_ne, rR_ne, rI_nk, rL_nk, rR_nk, rI_eq, rL_eq, rR_eq, Option.toList_some, Option.toList_none, List.cons_append, List.nil_append, List.append_nil]
  all_goals exact hh
/-- the corners of a rectangle -/
def pX (x0_z x1_z k_z : Int) : Int := if k_z = 1 ∨ k_z = 2 then x1_z else x0_z
def pY (y0 y1 k_z : Int) : Int := if k_z < 2 then y0 else y1
/-- no corner is too far -/
def rGood (mt_z : Int → Int) (x0_z y0 x1_z y1 : Int) : Prop := ∀ k_z c_z : Int, 0 ≤ k_z → k_z < 4 → 0 ≤ c_z → c_z < 2 → dv mt_z (pX x0_z x1_z k_z) (pY y0 y1 k_z) c_z ≠ 16001
def sml (a_z b_z : Int) : Prop := a_z.natAbs ≤ 1000000 ∧ 0 < b_z ∧ b_z ≤ 1000000
def big (a_z b_z : Int) : Prop := a_z.natAbs ≤ 2000000000000 ∧ 0 < b_z ∧ b_z ≤ 1000000000000
theorem nv_sml {x_z a_z b_z : Int} (h_z : NV x_z) (e1_z : a_z = fu x_z) (e2_z : b_z = fd x_z) : sml a_z b_z := by
  subst e1_z e2_z
  exact ⟨nv_u h_z, by have := h_z.2.2.1; omega, h_z.2.2.2⟩
theorem sml_big {a_z b_z : Int} (h_z : sml a_z b_z) : big a_z b_z := by
  obtain ⟨h1, h2, h3⟩ := h_z
  exact ⟨by omega, h2, by omega⟩
theorem X_rectangle {x0_z y0 x1_z y1 a_z b_z c_z d_z e_z f_z : Int} (hs : ShM M m) (hg : GV M m mt) (hf : gI M m 16 = 0 ∨ gI M m 16 = 1) (hE : gI M m 16 = 0 → (NV x0_z ∧ a_z = fu x0_z ∧ b_z = fd x0_z) ∧ (NV y0 ∧ c_z = fu y0 ∧ d_z = fd y0) ∧ (NV x1_z ∧ e_z = fu x1_z ∧ f_z = fd x1_z) ∧ NV y1 ∧ gL M m 14 = fu y1 ∧ gL M m 15 = fd y1) (b1 : sml a_z b_z) (b2 : sml c_z d_z) (b3 : (big e_z f_z ∧ sml (gL M m 14) (gL M m 15)) ∨ (sml e_z f_z ∧ big (gL M m 14) (gL M m 15))) (h_z : ∀ M', Sy M M' m → ((gI M' m 16 = 0 ∧ gI M m 16 = 0 ∧ rGood mt x0_z y0 x1_z y1 ∧ ∀ k_z, 0 ≤ k_z → k_z < 4 → gI M' (m + 27) k_z = dv mt (pX x0_z x1_z k_z) (pY y0 y1 k_z) 0 ∧ gI M' (m + 28) k_z = dv mt (pX x0_z x1_z k_z) (pY y0 y1 k_z) 1) ∨ (gI M' m 16 = 1 ∧ (gI M m 16 = 1 ∨ ¬ rGood mt x0_z y0 x1_z y1))) → Q none M') : Call G J_M_rectangle [a_r m, a_l a_z, a_l b_z, a_l c_z, a_l d_z, a_l e_z, a_l f_z] M Q := by
  rw [E_M_rectangle, B_224_0]
  generalize gL M m 14 = U_z at hE b3 ⊢
  generalize gL M m 15 = D_z at hE b3 ⊢
  have mk : ∀ (M1_z : Mem) (x_z y_z p_z q_z r_z s_z : Int), (gI M1_z m 16 = 0 ∨ gI M1_z m 16 = 1) → (gI M1_z m 16 = 0 → NV x_z ∧ p_z = fu x_z ∧ q_z = fd x_z) → (gI M1_z m 16 = 0 → NV y_z ∧ r_z = fu y_z ∧ s_z = fd y_z) → ((big p_z q_z ∧ sml r_z s_z) ∨ (sml p_z q_z ∧ big r_z s_z)) → CI M1_z m x_z y_z p_z q_z r_z s_z := by
    intro M1_z x_z y_z p_z q_z r_z s_z g0 g1 g2 g3_z
    rcases g0 with g0 | g0
    · obtain ⟨w1_z, w2_z, w3_z⟩ := g1 g0
      obtain ⟨w4_z, w5, w6_z⟩ := g2 g0
      exact Or.inl ⟨g0, w1_z, w4_z, w2_z, w3_z, w5, w6_z⟩
    · rcases g3_z with ⟨⟨v1_z, v2, v3⟩, v4_z, v5, v6⟩ | ⟨⟨v1_z, v2, v3⟩, v4_z, v5, v6⟩
      · exact Or.inr ⟨g0, v2, v5, Or.inl ⟨v1_z, v3, v4_z, v6⟩⟩
      · exact Or.inr ⟨g0, v2, v5, Or.inr ⟨v1_z, v3, v4_z, v6⟩⟩
  refine ⟨hs.1, hs.1, hs.1, X_corner hs hg (by omega) (mk M x0_z y0 a_z b_z c_z d_z hf (fun q_z => (hE q_z).1) (fun q_z => (hE q_z).2.1) (Or.inl ⟨sml_big b1, b2⟩)) (fun M1_z s1_z k1_z o1 => ?_)⟩
  have fl_z : ∀ (N_z N' : Mem) (k_z u_z v_z : Int), DvC N_z N' m k_z u_z v_z → (gI N' m 16 = 0 ∨ gI N' m 16 = 1) ∧ (gI N' m 16 = 0 → gI N_z m 16 = 0) := by
    intro N_z N' k_z u_z v_z o
    rcases o with ⟨w1_z, w2_z, -⟩ | ⟨w1_z, -⟩
    · exact ⟨Or.inl w1_z, fun _ => w2_z⟩
    · exact ⟨Or.inr w1_z, fun q_z => by omega⟩
  obtain ⟨f1_z, z1⟩ := fl_z _ _ _ _ _ o1
  have hs1 := s1_z.sh hs
  simp only [Option.toList_some, Option.toList_none, List.cons_append, List.nil_append, List.append_nil]
  rw [B_224_23]
  refine ⟨hs1.1, X_corner hs1 (hg.sy s1_z) (by omega) (mk M1_z x1_z y0 e_z f_z c_z d_z f1_z (fun q_z => (hE (z1 q_z)).2.2.1) (fun q_z => (hE (z1 q_z)).2.1) (Or.inl ⟨b3.elim (fun q_z => q_z.1) (fun q_z => sml_big q_z.1), b2⟩)) (fun M2_z s2_z k2_z o2 => ?_)⟩
  obtain ⟨f2_z, z2⟩ := fl_z _ _ _ _ _ o2
  have hs2 := s2_z.sh hs1
  simp only [Option.toList_some, Option.toList_none, List.cons_append, List.nil_append, List.append_nil]
  rw [B_224_36]
  refine ⟨hs2.1, X_corner hs2 ((hg.sy s1_z).sy s2_z) (by omega) (mk M2_z x1_z y1 e_z f_z U_z D_z f2_z (fun q_z => (hE (z1 (z2 q_z))).2.2.1) (fun q_z => (hE (z1 (z2 q_z))).2.2.2) b3) (fun M3_z s3_z k3_z o3_z => ?_)⟩
  obtain ⟨f3_z, z3⟩ := fl_z _ _ _ _ _ o3_z
  have hs3 := s3_z.sh hs2
  simp only [Option.toList_some, Option.toList_none, List.cons_append, List.nil_append, List.append_nil]
  rw [B_224_49]
  refine ⟨hs3.1, X_corner hs3 (((hg.sy s1_z).sy s2_z).sy s3_z) (by omega) (mk M3_z x0_z y1 a_z b_z U_z D_z f3_z (fun q_z => (hE (z1 (z2 (z3 q_z)))).1) (fun q_z => (hE (z1 (z2 (z3 q_z)))).2.2.2) (Or.inr ⟨b1, b3.elim (fun q_z => sml_big q_z.2) (fun q_z => q_z.2)⟩)) (fun M4_z s4_z k4_z o4_z => ?_)⟩
  simp only [Option.toList_some, Option.toList_none, List.cons_append, List.nil_append, List.append_nil]
  rw [B_224_60]
  refine h_z M4_z (((s1_z.trans s2_z).trans s3_z).trans s4_z) ?_
  have q0 : pX x0_z x1_z 0 = x0_z ∧ pX x0_z x1_z 1 = x1_z ∧ pX x0_z x1_z 2 = x1_z ∧ pX x0_z x1_z 3 = x0_z := ⟨rfl, rfl, rfl, rfl⟩
  have q1_z : pY y0 y1 0 = y0 ∧ pY y0 y1 1 = y0 ∧ pY y0 y1 2 = y1 ∧ pY y0 y1 3 = y1 := ⟨rfl, rfl, rfl, rfl⟩
  obtain ⟨q00, q01, q02, q03⟩ := q0
  obtain ⟨q10_z, q11_z, q12_z, q13_z⟩ := q1_z
  have bad_z : ∀ k_z : Int, 0 ≤ k_z → k_z < 4 → (dv mt (pX x0_z x1_z k_z) (pY y0 y1 k_z) 0 = 16001 ∨ dv mt (pX x0_z x1_z k_z) (pY y0 y1 k_z) 1 = 16001) → ¬ rGood mt x0_z y0 x1_z y1 := by
    intro k_z h1 h2 h3 h4
    rcases h3 with h3 | h3
    · exact h4 k_z 0 h1 h2 (by decide) (by decide) h3
    · exact h4 k_z 1 h1 h2 (by decide) (by decide) h3
  rcases o4_z with ⟨w1_z, w2_z, w3_z, w4_z, w5, w6_z⟩ | ⟨w1_z, w2_z⟩
  · rcases o3_z with ⟨x1', x2', x3, x4_z, x5_z, x6⟩ | ⟨x1', x2'⟩
    · rcases o2 with ⟨y1', y2', y3, y4, y5, y6⟩ | ⟨y1', y2'⟩
      · rcases o1 with ⟨t1_z, t2_z, t3_z, t4_z, t5_z, t6⟩ | ⟨t1_z, t2_z⟩
        · refine Or.inl ⟨w1_z, t2_z, ?_, ?_⟩
          · intro k_z c_z h1 h2 h3 h4
            have hk : k_z = 0 ∨ k_z = 1 ∨ k_z = 2 ∨ k_z = 3 := by omega
            have hc_z : c_z = 0 ∨ c_z = 1 := by omega
            rcases hk with hk | hk | hk | hk <;> rcases hc_z with hc_z | hc_z <;> subst hk <;> subst hc_z <;> assumption
          · intro k_z h1 h2
            have hk : k_z = 0 ∨ k_z = 1 ∨ k_z = 2 ∨ k_z = 3 := by omega
            rcases hk with hk | hk | hk | hk <;> subst hk
            · rw [(k4_z 0 (by decide)).1, (k3_z 0 (by decide)).1, (k2_z 0 (by decide)).1, (k4_z 0 (by decide)).2, (k3_z 0 (by decide)).2, (k2_z 0 (by decide)).2]
              exact ⟨t5_z, t6⟩
            · rw [(k4_z 1 (by decide)).1, (k3_z 1 (by decide)).1, (k4_z 1 (by decide)).2, (k3_z 1 (by decide)).2]
              exact ⟨y5, y6⟩
            · rw [(k4_z 2 (by decide)).1, (k4_z 2 (by decide)).2]
              exact ⟨x5_z, x6⟩
            · exact ⟨w5, w6_z⟩
        · omega
      · omega
    · omega
  · refine Or.inr ⟨w1_z, ?_⟩
    rcases w2_z with w2_z | w2_z
    · rcases o3_z with ⟨x1', -⟩ | ⟨x1', x2'⟩
      · omega
      · rcases x2' with x2' | x2'
        · rcases o2 with ⟨y1', -⟩ | ⟨y1', y2'⟩
          · omega
          · rcases y2' with y2' | y2'
            · rcases o1 with ⟨t1_z, -⟩ | ⟨t1_z, t2_z⟩
              · omega
              · rcases t2_z with t2_z | t2_z
                · exact Or.inl t2_z
                · exact Or.inr (bad_z 0 (by decide) (by decide) t2_z)
            · exact Or.inr (bad_z 1 (by decide) (by decide) y2')
        · exact Or.inr (bad_z 2 (by decide) (by decide) x2')
    · exact Or.inr (bad_z 3 (by decide) (by decide) w2_z)
end MD
