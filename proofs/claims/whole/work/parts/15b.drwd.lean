/-! THE PURE PART, part 15: draw, what the class leaves. Own work. -/
def DrM (M_z Mp : Mem) (c_z d_z g_z : Nat) (tk w_z tp dp f_z : Int) (p_z : Nat) : Prop := (gK Mp = gK M_z ∧ gN Mp = gN M_z ∧ gz Mp = gz M_z ∧ gs Mp = gs M_z) ∧ (∀ (a_z : Nat) (j_z : Int), ¬ (a_z = c_z + 22 + 4 * (d_z + 1) ∧ j_z = 3) → gR Mp a_z j_z = gR M_z a_z j_z) ∧ gR Mp (c_z + 22 + 4 * (d_z + 1)) 3 = p_z ∧ (∀ a_z, a_z ≠ g_z + 4 → a_z ≠ c_z + 21 → gL Mp a_z = gL M_z a_z) ∧ (∀ i_z, 0 ≤ i_z → i_z < 6 → gL Mp (g_z + 4) i_z = gL M_z (g_z + 1) i_z) ∧
  (∀ a_z, a_z ≠ c_z → ¬ (c_z + 4 ≤ a_z ∧ a_z < c_z + 10) → a_z ≠ c_z + 21 → a_z ≠ c_z + 22 + 4 * d_z → a_z ≠ c_z + 22 + 4 * (d_z + 1) → a_z ≠ g_z + 3 → a_z ≠ g_z + 5 → gI Mp a_z = gI M_z a_z) ∧
  ((∀ j_z, j_z ≠ 11 → j_z ≠ 12 → j_z ≠ 14 → gI Mp c_z j_z = gI M_z c_z j_z) ∧ gI Mp c_z 11 = (d_z : Int) + 1 ∧ gI Mp c_z 12 = tp + 1 ∧ gI Mp c_z 14 = (if (d_z : Int) + 1 ≤ dp then dp else (d_z : Int) + 1)) ∧
  ((∀ j_z, j_z ≠ 5 → j_z ≠ 6 → gI Mp (c_z + 22 + 4 * d_z) j_z = gI M_z (c_z + 22 + 4 * d_z) j_z) ∧ gI Mp (c_z + 22 + 4 * d_z) 5 = tk + 1 ∧ gI Mp (c_z + 22 + 4 * d_z) 6 = w_z - 1) ∧
  (gI Mp (c_z + 22 + 4 * (d_z + 1)) 4 = f_z ∧ gI Mp (c_z + 22 + 4 * (d_z + 1)) 5 = 0 ∧ gI Mp (c_z + 22 + 4 * (d_z + 1)) 6 = 0 ∧ gI Mp (c_z + 22 + 4 * (d_z + 1)) 7 = 0) ∧ gI Mp (g_z + 3) 3 = gI M_z g_z 3
def DrN (M_z Mp : Mem) (c_z g_z : Nat) : Prop := (∀ a_z, c_z + 4 ≤ a_z → a_z < c_z + 10 → gI Mp a_z = gI M_z a_z) ∧ gI Mp (g_z + 3) 2 = gI M_z g_z 2 ∧ ∀ i_z, 0 ≤ i_z → i_z < 6 → gI Mp (g_z + 5) i_z = gI M_z (g_z + 2) i_z
def DrB (M_z Mp : Mem) (c_z g_z : Nat) (e_z kk n_z : Int) (X_z Y : Int → Int) : Prop := (gI Mp (c_z + 4) 5 = e_z + 1 ∧ gI Mp (c_z + 4) 6 = kk + 4 ∧ gI Mp (c_z + 4) 7 = 0) ∧ gI Mp (c_z + 5) = up4 (gI M_z (c_z + 5)) kk X_z ∧ gI Mp (c_z + 6) = up4 (gI M_z (c_z + 6)) kk Y ∧ gI Mp (c_z + 7) = up4 (gI M_z (c_z + 7)) kk fl4 ∧ gI Mp (c_z + 8) = upf (gI M_z (c_z + 8)) (e_z + 1) (kk + 4) ∧ gI Mp (c_z + 9) = upf (gI M_z (c_z + 9)) (e_z + 1) 0 ∧ gI Mp (g_z + 3) 2 = n_z + 1 ∧ ∀ i_z, 0 ≤ i_z → i_z < 6 → gI Mp (g_z + 5) i_z = if i_z = n_z then e_z else gI M_z (g_z + 2) i_z
theorem frB_f {M_z : Mem} {c_z r_z : Nat} {d_z dp f_z : Int} {p_z : Nat} (hr : r_z ≠ c_z) : ∀ M', M' = frB M_z c_z r_z d_z dp f_z p_z → (gK M' = gK M_z ∧ gN M' = gN M_z ∧ gz M' = gz M_z ∧ gs M' = gs M_z ∧ gL M' = gL M_z) ∧ (∀ (a_z : Nat) (j_z : Int), ¬ (a_z = r_z ∧ j_z = 3) → gR M' a_z j_z = gR M_z a_z j_z) ∧ gR M' r_z 3 = p_z ∧ (∀ a_z, a_z ≠ c_z → a_z ≠ r_z → gI M' a_z = gI M_z a_z) ∧ (∀ j_z, j_z ≠ 11 → j_z ≠ 14 → gI M' c_z j_z = gI M_z c_z j_z) ∧ gI M' c_z 11 = d_z + 1 ∧ gI M' c_z 14 = (if d_z + 1 ≤ dp then dp else d_z + 1) ∧ (gI M' r_z 4 = f_z ∧ gI M' r_z 5 = 0 ∧ gI M' r_z 6 = 0 ∧ gI M' r_z 7 = 0) := by
  intro M' h_z
  unfold frB at h_z
  generalize (if d_z + 1 ≤ dp then dp else d_z + 1) = nd' at *
  subst h_z
  refine ⟨⟨rfl, rfl, rfl, rfl, rfl⟩, fun a_z j_z n0_z => ?_, ?_, fun a_z n0_z n1_z => ?_, fun j_z n0_z n1_z => ?_, ?_, ?_, ⟨?_, ?_, ?_, rI_at⟩⟩
  · show gR (uR _ r_z 3 p_z) a_z j_z = _
    by_cases ca : a_z = r_z
    · have cj : j_z ≠ 3 := fun q_z => n0_z ⟨ca, q_z⟩
      rw [ca, rR_nk cj]
      rfl
    · rw [rR_ne ca]
      rfl
  · show gR (uR _ r_z 3 p_z) r_z 3 = _
    rw [rR_at]
  · rw [rI_ne n1_z, rI_ne n1_z, rI_ne n1_z, gI_uR, rI_ne n1_z, rI_ne n0_z, rI_ne n0_z]
  · rw [rI_ne (fun q_z => hr q_z.symm), rI_ne (fun q_z => hr q_z.symm), rI_ne (fun q_z => hr q_z.symm), gI_uR, rI_ne (fun q_z => hr q_z.symm), rI_nk n1_z, rI_nk n0_z]
  · rw [rI_ne (fun q_z => hr q_z.symm), rI_ne (fun q_z => hr q_z.symm), rI_ne (fun q_z => hr q_z.symm), gI_uR, rI_ne (fun q_z => hr q_z.symm), rI_nk (by decide), rI_at]
  · rw [rI_ne (fun q_z => hr q_z.symm), rI_ne (fun q_z => hr q_z.symm), rI_ne (fun q_z => hr q_z.symm), gI_uR, rI_ne (fun q_z => hr q_z.symm), rI_at]
  · rw [rI_nk (by decide), rI_nk (by decide), rI_nk (by decide), gI_uR, rI_at]
  · rw [rI_nk (by decide), rI_nk (by decide), rI_at]
  · rw [rI_nk (by decide), rI_at]
theorem DrM.of {M_z M1_z M2_z M3_z M6_z Mp : Mem} {c_z d_z g_z : Nat} {tk w_z tp dp f_z : Int} {p_z : Nat} (d4_z : d_z < 4) (hg : c_z + 42 ≤ g_z) (hE : Ex (fun a_z => a_z = c_z + 21) (uI M_z (c_z + 22 + 4 * d_z) 5 (tk + 1)) M1_z) (h2 : M2_z = uI M1_z (c_z + 22 + 4 * d_z) 6 (w_z - 1)) (h3 : PsF M2_z M3_z c_z g_z tp) (k6_z : gK M6_z = gK M3_z ∧ gN M6_z = gN M3_z ∧ gR M6_z = gR M3_z ∧ gz M6_z = gz M3_z ∧ gs M6_z = gs M3_z ∧ gL M6_z = gL M3_z) (r6 : ∀ a_z, ¬ (c_z + 4 ≤ a_z ∧ a_z < c_z + 10) → a_z ≠ g_z + 3 → a_z ≠ g_z + 5 → gI M6_z a_z = gI M3_z a_z) (g6 : ∀ j_z, j_z ≠ 2 → gI M6_z (g_z + 3) j_z = gI M3_z (g_z + 3) j_z) (hp : Mp = frB M6_z c_z (c_z + 22 + 4 * (d_z + 1)) d_z dp f_z p_z) : DrM M_z Mp c_z d_z g_z tk w_z tp dp f_z p_z ∧ (∀ a_z, c_z + 4 ≤ a_z → a_z < c_z + 10 → gI Mp a_z = gI M6_z a_z ∧ gI M3_z a_z = gI M_z a_z) ∧ (gI Mp (g_z + 3) = gI M6_z (g_z + 3) ∧ gI M3_z (g_z + 3) 2 = gI M_z g_z 2) ∧ (gI Mp (g_z + 5) = gI M6_z (g_z + 5) ∧ ∀ i_z, 0 ≤ i_z → i_z < 6 → gI M3_z (g_z + 5) i_z = gI M_z (g_z + 2) i_z) ∧ (∀ j_z, gI M3_z (c_z + 21) j_z = gI M1_z (c_z + 21) j_z) := by
  obtain ⟨e1_z, e2_z, e3_z, e4_z, e5_z, e6_z⟩ := hE
  obtain ⟨⟨p1_z, p2_z, p3_z, p4_z, p5_z⟩, p6_z, p7_z, p8_z, p9_z, p10, p11, p12, p13_z⟩ := h3
  obtain ⟨q1_z, q2_z, q3_z, q4_z, q5_z, q6_z⟩ := k6_z
  obtain ⟨⟨z1, z2, z3, z4, z5⟩, z6, z7, z8, z9, z10, z11, z12⟩ := frB_f (c_z := c_z) (by omega) Mp hp
  have m2_z : ∀ a_z, a_z ≠ c_z + 22 + 4 * d_z → gI M2_z a_z = gI M1_z a_z := fun a_z n0_z => by rw [h2, rI_ne n0_z]
  have m2L : gL M2_z = gL M1_z := by rw [h2]; rfl
  have m1_z : ∀ a_z, a_z ≠ c_z + 21 → a_z ≠ c_z + 22 + 4 * d_z → gI M1_z a_z = gI M_z a_z := fun a_z n0_z n1_z => by rw [(e6_z a_z n0_z).1, rI_ne n1_z]
  have m1L : ∀ a_z, a_z ≠ c_z + 21 → gL M1_z a_z = gL M_z a_z := fun a_z n0_z => (e6_z a_z n0_z).2
  have i3_z : ∀ a_z, a_z ≠ c_z → a_z ≠ g_z + 3 → a_z ≠ g_z + 5 → a_z ≠ c_z + 21 → a_z ≠ c_z + 22 + 4 * d_z → gI M3_z a_z = gI M_z a_z := fun a_z n0_z n1_z n2_z n3_z n4_z => by rw [p6_z a_z n0_z n1_z n2_z, m2_z a_z n4_z, m1_z a_z n3_z n4_z]
  refine ⟨⟨⟨?_, ?_, ?_, ?_⟩, fun a_z j_z n0_z => ?_, z7, fun a_z n0_z n1_z => ?_, fun i_z i0_z i1_z => ?_, fun a_z n0_z n1_z n2_z n3_z n4_z n5_z n6_z => ?_, ⟨fun j_z n0_z n1_z n2_z => ?_, z10, ?_, z11⟩, ⟨fun j_z n0_z n1_z => ?_, ?_, ?_⟩, z12, ?_⟩, fun a_z a0_z a1_z => ⟨?_, ?_⟩, ⟨?_, ?_⟩, ⟨?_, fun i_z i0_z i1_z => ?_⟩, fun j_z => ?_⟩
  · rw [z1, q1_z, p1_z, h2]; exact e1_z
  · rw [z2, q2_z, p2_z, h2]; exact e2_z
  · rw [z3, q4_z, p4_z, h2]; exact e4_z
  · rw [z4, q5_z, p5_z, h2]; exact e5_z
  · rw [z6 a_z j_z n0_z, q3_z, p3_z, h2]
    show gR M1_z a_z j_z = _
    rw [e3_z]
    rfl
  · rw [z5, q6_z, p12 a_z n0_z, m2L, m1L a_z n1_z]
  · rw [z5, q6_z, p13_z i_z i0_z i1_z, m2L, m1L _ (by omega)]
  · rw [z8 a_z n0_z n4_z, r6 a_z n1_z n5_z n6_z, i3_z a_z n0_z n5_z n6_z n2_z n3_z]
  · rw [z9 j_z n0_z n2_z, r6 c_z (by omega) (by omega) (by omega), p7_z j_z n1_z, m2_z c_z (by omega), m1_z c_z (by omega) (by omega)]
  · rw [z9 12 (by decide) (by decide), r6 c_z (by omega) (by omega) (by omega), p8_z]
  · rw [z8 _ (by omega) (by omega), r6 _ (by omega) (by omega) (by omega), p6_z _ (by omega) (by omega) (by omega), h2, rI_nk n1_z, (e6_z _ (by omega)).1, rI_nk n0_z]
  · rw [z8 _ (by omega) (by omega), r6 _ (by omega) (by omega) (by omega), p6_z _ (by omega) (by omega) (by omega), h2, rI_nk (by decide), (e6_z _ (by omega)).1, rI_at]
  · rw [z8 _ (by omega) (by omega), r6 _ (by omega) (by omega) (by omega), p6_z _ (by omega) (by omega) (by omega), h2, rI_at]
  · rw [z8 _ (by omega) (by omega), g6 3 (by decide), p10, m2_z _ (by omega), m1_z _ (by omega) (by omega)]
  · exact z8 a_z (by omega) (by omega)
  · exact i3_z a_z (by omega) (by omega) (by omega) (by omega) (by omega)
  · exact z8 _ (by omega) (by omega)
  · rw [p9_z, m2_z _ (by omega), m1_z _ (by omega) (by omega)]
  · exact z8 _ (by omega) (by omega)
  · rw [p11 i_z i0_z i1_z, m2_z _ (by omega), m1_z _ (by omega) (by omega)]
  · rw [p6_z _ (by omega) (by omega) (by omega), m2_z _ (by omega)]
theorem DrN.of {M_z M3_z Mp : Mem} {c_z g_z : Nat} (h1 : ∀ a_z, c_z + 4 ≤ a_z → a_z < c_z + 10 → gI Mp a_z = gI M3_z a_z ∧ gI M3_z a_z = gI M_z a_z) (h2 : gI Mp (g_z + 3) = gI M3_z (g_z + 3) ∧ gI M3_z (g_z + 3) 2 = gI M_z g_z 2) (h3 : gI Mp (g_z + 5) = gI M3_z (g_z + 5) ∧ ∀ i_z, 0 ≤ i_z → i_z < 6 → gI M3_z (g_z + 5) i_z = gI M_z (g_z + 2) i_z) : DrN M_z Mp c_z g_z := ⟨fun a_z a0_z a1_z => (h1 a_z a0_z a1_z).1.trans (h1 a_z a0_z a1_z).2, by rw [h2.1]; exact h2.2, fun i_z i0_z i1_z => by rw [h3.1]; exact h3.2 i_z i0_z i1_z⟩
theorem DrB.of {M_z M1_z M3_z M6_z Mp : Mem} {c_z g_z : Nat} {e_z kk n_z : Int} {X_z Y : Int → Int} (hP : PtF M3_z M6_z c_z (g_z + 3) e_z kk n_z) (h1 : ∀ a_z, c_z + 4 ≤ a_z → a_z < c_z + 10 → gI Mp a_z = gI M6_z a_z ∧ gI M3_z a_z = gI M_z a_z) (h2 : gI Mp (g_z + 3) = gI M6_z (g_z + 3) ∧ gI M3_z (g_z + 3) 2 = gI M_z g_z 2) (h3 : gI Mp (g_z + 5) = gI M6_z (g_z + 5) ∧ ∀ i_z, 0 ≤ i_z → i_z < 6 → gI M3_z (g_z + 5) i_z = gI M_z (g_z + 2) i_z) (h4 : ∀ j_z, gI M3_z (c_z + 21) j_z = gI M1_z (c_z + 21) j_z) (hX : ∀ j_z : Int, 0 ≤ j_z → j_z < 4 → gI M1_z (c_z + 21) (2 * j_z) = X_z j_z) (hY : ∀ j_z : Int, 0 ≤ j_z → j_z < 4 → gI M1_z (c_z + 21) (2 * j_z + 1) = Y j_z) : DrB M_z Mp c_z g_z e_z kk n_z X_z Y := by
  obtain ⟨-, -, ⟨a5, a6, a7⟩, a8, a9, a10, a11, a12, a13, a14, a15⟩ := hP
  have f_z : ∀ a_z, c_z + 4 ≤ a_z → a_z < c_z + 10 → gI Mp a_z = gI M6_z a_z := fun a_z a0_z a1_z => (h1 a_z a0_z a1_z).1
  have f3_z : ∀ a_z, c_z + 4 ≤ a_z → a_z < c_z + 10 → gI M3_z a_z = gI M_z a_z := fun a_z a0_z a1_z => (h1 a_z a0_z a1_z).2
  refine ⟨⟨by rw [f_z _ (by omega) (by omega), a5], by rw [f_z _ (by omega) (by omega), a6], by rw [f_z _ (by omega) (by omega), a7]⟩, ?_, ?_, ?_, ?_, ?_, ?_, fun i_z i0_z i1_z => ?_⟩
  · rw [f_z _ (by omega) (by omega), a8, f3_z _ (by omega) (by omega)]
    exact up4_congr (fun j_z j0 j1 => by rw [h4]; exact hX j_z j0 j1)
  · rw [f_z _ (by omega) (by omega), a9, f3_z _ (by omega) (by omega)]
    exact up4_congr (fun j_z j0 j1 => by rw [h4]; exact hY j_z j0 j1)
  · rw [f_z _ (by omega) (by omega), a10, f3_z _ (by omega) (by omega)]
  · rw [f_z _ (by omega) (by omega), a11, f3_z _ (by omega) (by omega)]
  · rw [f_z _ (by omega) (by omega), a12, f3_z _ (by omega) (by omega)]
  · rw [h2.1, a14]
  · have q_z : gI M6_z (g_z + 5) = _ := a15
    rw [h3.1, q_z]
    by_cases ci : i_z = n_z
    · rw [if_pos ci, ci, upf_at]
    · rw [if_neg ci, upf_ne _ _ ci]
      exact h3.2 i_z i0_z i1_z
