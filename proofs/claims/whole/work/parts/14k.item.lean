/-! THE PURE PART, part 14: what an item, a clip and the end of a path change of the class's memory. Own work. -/
theorem itA_f {M_z : Mem} {r_z q_z : Nat} {x_z y_z z_z w_z it n_z : Int} (hi_z : gI M_z r_z 8 = it) (hq : q_z + 3 ≤ r_z ∨ r_z + 14 ≤ q_z) : ∀ M', M' = uI (uCI (uI (uI (uI (uI (uI (uI M_z (r_z + 7) it x_z) (r_z + 8) it y_z) (r_z + 9) it (gI M_z q_z 3)) (r_z + 10) it z_z) (r_z + 11) it w_z) (r_z + 12) it (gI M_z q_z 2)) (r_z + 13) (it * 6) (q_z + 2) 0 6) r_z 8 (it + 1) → (gK M' = gK M_z ∧ gN M' = gN M_z ∧ gR M' = gR M_z ∧ gz M' = gz M_z ∧ gs M' = gs M_z ∧ gL M' = gL M_z) ∧ (∀ a_z, a_z < r_z ∨ (r_z < a_z ∧ a_z < r_z + 7) ∨ r_z + 14 ≤ a_z → gI M' a_z = gI M_z a_z) ∧ gI M' r_z 8 = it + 1 ∧ gI M' (r_z + 7) = upf (gI M_z (r_z + 7)) it x_z ∧ gI M' (r_z + 8) = upf (gI M_z (r_z + 8)) it y_z ∧ gI M' (r_z + 9) = upf (gI M_z (r_z + 9)) it (gI M_z q_z 3) ∧ gI M' (r_z + 10) = upf (gI M_z (r_z + 10)) it z_z ∧ gI M' (r_z + 11) = upf (gI M_z (r_z + 11)) it w_z ∧ gI M' (r_z + 12) = upf (gI M_z (r_z + 12)) it (gI M_z q_z 2) ∧ gI M' (r_z + 13) = rc (gI M_z (r_z + 13)) (it * 6) (gI M_z (q_z + 2)) 0 6 := by
  intro M' h_z
  subst h_z
  generalize gI M_z q_z 3 = v3
  generalize gI M_z q_z 2 = v2
  refine ⟨⟨rfl, rfl, rfl, rfl, rfl, rfl⟩, fun a_z ha_z => ?_, rI_at, ?_, ?_, ?_, ?_, ?_, ?_, ?_⟩
  · rw [rI_ne (by omega), rCI_ne (by omega), rI_ne (by omega), rI_ne (by omega), rI_ne (by omega), rI_ne (by omega), rI_ne (by omega), rI_ne (by omega)]
  · rw [rI_ne (by omega), rCI_ne (by omega), rI_ne (by omega), rI_ne (by omega), rI_ne (by omega), rI_ne (by omega), rI_ne (by omega), rI_row]
  · rw [rI_ne (by omega), rCI_ne (by omega), rI_ne (by omega), rI_ne (by omega), rI_ne (by omega), rI_ne (by omega), rI_row, rI_ne (by omega)]
  · rw [rI_ne (by omega), rCI_ne (by omega), rI_ne (by omega), rI_ne (by omega), rI_ne (by omega), rI_row, rI_ne (by omega), rI_ne (by omega)]
  · rw [rI_ne (by omega), rCI_ne (by omega), rI_ne (by omega), rI_ne (by omega), rI_row, rI_ne (by omega), rI_ne (by omega), rI_ne (by omega)]
  · rw [rI_ne (by omega), rCI_ne (by omega), rI_ne (by omega), rI_row, rI_ne (by omega), rI_ne (by omega), rI_ne (by omega), rI_ne (by omega)]
  · rw [rI_ne (by omega), rCI_ne (by omega), rI_row, rI_ne (by omega), rI_ne (by omega), rI_ne (by omega), rI_ne (by omega), rI_ne (by omega)]
  · rw [rI_ne (by omega), rCI_row, rI_ne (by omega), rI_ne (by omega), rI_ne (by omega), rI_ne (by omega), rI_ne (by omega), rI_ne (by omega), rI_ne (by omega), rI_ne (by omega), rI_ne (by omega), rI_ne (by omega), rI_ne (by omega), rI_ne (by omega)]
theorem paE_f {M_z : Mem} {r_z : Nat} {e_z kk : Int} : ∀ M', M' = uI (uI (uI (uI M_z r_z 5 (e_z + 1)) (r_z + 4) (e_z + 1) kk) (r_z + 5) (e_z + 1) 0) r_z 7 0 → (gK M' = gK M_z ∧ gN M' = gN M_z ∧ gR M' = gR M_z ∧ gz M' = gz M_z ∧ gs M' = gs M_z ∧ gL M' = gL M_z) ∧ (∀ a_z, a_z ≠ r_z → a_z ≠ r_z + 4 → a_z ≠ r_z + 5 → gI M' a_z = gI M_z a_z) ∧ (∀ j_z, j_z ≠ 5 → j_z ≠ 7 → gI M' r_z j_z = gI M_z r_z j_z) ∧ gI M' r_z 5 = e_z + 1 ∧ gI M' r_z 7 = 0 ∧ gI M' (r_z + 4) = upf (gI M_z (r_z + 4)) (e_z + 1) kk ∧ gI M' (r_z + 5) = upf (gI M_z (r_z + 5)) (e_z + 1) 0 := by
  intro M' h_z
  subst h_z
  refine ⟨⟨rfl, rfl, rfl, rfl, rfl, rfl⟩, fun a_z n0_z n1_z n2_z => ?_, fun j_z n0_z n1_z => ?_, ?_, rI_at, ?_, ?_⟩
  · rw [rI_ne n0_z, rI_ne n2_z, rI_ne n1_z, rI_ne n0_z]
  · rw [rI_nk n1_z, rI_ne (by omega), rI_ne (by omega), rI_nk n0_z]
  · rw [rI_nk (by decide), rI_ne (by omega), rI_ne (by omega), rI_at]
  · rw [rI_ne (by omega), rI_ne (by omega), rI_row, rI_ne (by omega)]
  · rw [rI_ne (by omega), rI_row, rI_ne (by omega), rI_ne (by omega)]
theorem clA_f {M_z : Mem} {g_z : Nat} {n_z e_z : Int} : ∀ M', M' = uI (uI M_z (g_z + 2) n_z e_z) g_z 2 (n_z + 1) → (gK M' = gK M_z ∧ gN M' = gN M_z ∧ gR M' = gR M_z ∧ gz M' = gz M_z ∧ gs M' = gs M_z ∧ gL M' = gL M_z) ∧ (∀ a_z, a_z ≠ g_z → a_z ≠ g_z + 2 → gI M' a_z = gI M_z a_z) ∧ (∀ j_z, j_z ≠ 2 → gI M' g_z j_z = gI M_z g_z j_z) ∧ gI M' g_z 2 = n_z + 1 ∧ gI M' (g_z + 2) = upf (gI M_z (g_z + 2)) n_z e_z := by
  intro M' h_z
  subst h_z
  refine ⟨⟨rfl, rfl, rfl, rfl, rfl, rfl⟩, fun a_z n0_z n1_z => ?_, fun j_z n0_z => ?_, rI_at, ?_⟩
  · rw [rI_ne n0_z, rI_ne n1_z]
  · rw [rI_nk n0_z, rI_ne (by omega)]
  · rw [rI_ne (by omega), rI_row]
