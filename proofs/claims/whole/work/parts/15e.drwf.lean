/-! THE PURE PART, part 15: the relation once a form has begun. Own work. -/
theorem bgM_f {T : Mem} {m : Nat} {d_z f_z dp : Int} : ∀ T5, T5 = uI (bgM T m d_z f_z dp) (m + 18) (d_z + 1) (-1 + 1) → (∀ a_z, a_z ≠ m → a_z ≠ m + 17 → a_z ≠ m + 18 → a_z ≠ m + 19 → a_z ≠ m + 22 → gI T5 a_z = gI T a_z) ∧ (∀ j_z, j_z ≠ 36 → j_z ≠ 50 → gI T5 m j_z = gI T m j_z) ∧ gI T5 m 36 = d_z + 1 ∧ gI T5 m 50 = (if d_z + 1 ≤ dp then dp else d_z + 1) ∧ gI T5 (m + 17) = upf (gI T (m + 17)) (d_z + 1) (f_z + 1) ∧ gI T5 (m + 18) = upf (gI T (m + 18)) (d_z + 1) 0 ∧ gI T5 (m + 19) = upf (gI T (m + 19)) (d_z + 1) 0 ∧ gI T5 (m + 22) = upf (gI T (m + 22)) (d_z + 1) 0 := by
  intro T5 h_z
  unfold bgM at h_z
  generalize (if d_z + 1 ≤ dp then dp else d_z + 1) = nd' at *
  subst h_z
  refine ⟨fun a_z n0_z n1_z n2_z n3_z n4_z => ?_, fun j_z n0_z n1_z => ?_, ?_, ?_, ?_, ?_, ?_, ?_⟩
  · rw [rI_ne n2_z, rI_ne n0_z, rI_ne n4_z, rI_ne n3_z, rI_ne n2_z, rI_ne n1_z, rI_ne n0_z]
  · rw [rI_ne (by omega), rI_nk n1_z, rI_ne (by omega), rI_ne (by omega), rI_ne (by omega), rI_ne (by omega), rI_nk n0_z]
  · rw [rI_ne (by omega), rI_nk (by decide), rI_ne (by omega), rI_ne (by omega), rI_ne (by omega), rI_ne (by omega), rI_at]
  · rw [rI_ne (by omega), rI_at]
  · rw [rI_ne (by omega), rI_ne (by omega), rI_ne (by omega), rI_ne (by omega), rI_ne (by omega), rI_row, rI_ne (by omega)]
  · rw [rI_row, rI_ne (by omega), rI_ne (by omega), rI_ne (by omega), rI_row, rI_ne (by omega), rI_ne (by omega)]
    funext j_z
    unfold upf
    by_cases cj : j_z = d_z + 1
    · rw [if_pos cj, if_pos cj]
      rfl
    · rw [if_neg cj, if_neg cj, if_neg cj]
  · rw [rI_ne (by omega), rI_ne (by omega), rI_ne (by omega), rI_row, rI_ne (by omega), rI_ne (by omega), rI_ne (by omega)]
  · rw [rI_ne (by omega), rI_ne (by omega), rI_row, rI_ne (by omega), rI_ne (by omega), rI_ne (by omega), rI_ne (by omega)]
/-- four corners are a_z path -/
theorem PC.box {xs ys fl_z : Int → Int} {kk b_z : Int} {X_z Y mx_z my mb : Int → Int} (bX_z : ∀ j_z, 0 ≤ j_z → j_z < 4 → (X_z j_z).natAbs ≤ 16000) (bY : ∀ j_z, 0 ≤ j_z → j_z < 4 → (Y j_z).natAbs ≤ 16000) (h1 : ∀ j_z, 0 ≤ j_z → j_z < 4 → mx_z (b_z + j_z) = X_z j_z ∧ my (b_z + j_z) = Y j_z) (h2 : mb b_z = 0) : PC (up4 xs kk X_z) (up4 ys kk Y) (up4 fl_z kk fl4) kk 4 mx_z my mb b_z 1 := by
  have e_z : PC xs ys fl_z kk 0 mx_z my mb b_z 0 := ⟨by decide, by decide, fun i_z i0_z i1_z => by omega, by decide, fun _ => rfl, fun q_z => by omega, fun j_z j0 j1 => by omega, fun j_z j0 j1 => by omega, fun i_z i0_z i1_z => by omega⟩
  have a_z := PC.add4 (X_z := X_z) (Y := Y) (mx' := mx_z) (my' := my) (mb' := mb) e_z (by decide) bX_z bY (fun i_z i0_z i1_z => by omega) (fun j_z j0 j1 => by rw [Int.add_zero]; exact h1 j_z j0 j1) (fun i_z i0_z i1_z => by omega) (by rw [Int.add_zero]; exact h2)
  rw [Int.add_zero, Int.zero_add, Int.zero_add] at a_z
  exact a_z
section AZ
variable {G : Env0} {M T : Mem} {c s m : Nat}
/-- no path is being made; the pool has grown by a box -/
theorem PaR.none2 {M1_z T1 : Mem} {e_z kk : Int} (h_z : PaR M T c m) (hee : gI M (c + 4) 5 = e_z) (hkk : gI M (c + 4) 6 = kk) (e13_z : gI M1_z c 13 = gI M c 13 + 1) (f5_z : gI M1_z (c + 4) 5 = e_z + 1) (f6_z : gI M1_z (c + 4) 6 = kk + 4) (f7_z : gI M1_z (c + 4) 7 = 0) (r7 : gI M1_z (c + 8) (e_z + 1) = kk + 4) (r8 : gI M1_z (c + 9) (e_z + 1) = 0) (t33 : gI T1 m 33 = gI T m 33 + 1) (t25 : gI T1 m 25 = 0) (t26 : gI T1 m 26 = 0) (t27 : gI T1 m 27 = 0) : PaR M1_z T1 c m := by
  obtain ⟨p1_z, p2_z, p3_z, p4_z, p5_z, p6_z, p7_z, p8_z⟩ := h_z
  rw [hee] at p1_z p3_z
  rw [hkk] at p2_z
  unfold PaR
  rw [f5_z, f6_z, f7_z, e13_z, r7, r8, t25, t26, t27]
  refine ⟨by omega, by omega, by omega, by omega, ⟨by decide, by decide, fun i_z i0_z i1_z => by omega, by decide, fun _ => rfl, fun q_z => by omega, fun j_z j0 j1 => by omega, fun j_z j0 j1 => by omega, fun i_z i0_z i1_z => by omega⟩, fun _ => rfl, Or.inl ⟨rfl, rfl⟩, Or.inl rfl⟩
theorem fin_pool {Mp M2_z T' K_z T5 : Mem} {g_z : Nat} {e_z kk n_z p' : Int} {X_z Y : Int → Int} (hB_z : DrB M Mp c g_z e_z kk n_z X_z Y) (hM_z : ∀ a_z, c + 4 ≤ a_z → a_z < c + 10 → gI M2_z a_z = gI Mp a_z) (hT_z : BxT K_z T5 m p' n_z) (r8 : ∀ a_z, m + 8 ≤ a_z → a_z ≤ m + 15 → gI K_z a_z = gI T' a_z) (rX : ∀ k_z, 0 ≤ k_z → k_z < 4 → gI K_z (m + 27) k_z = X_z k_z ∧ gI K_z (m + 28) k_z = Y k_z) (bX_z : ∀ j_z, 0 ≤ j_z → j_z < 4 → (X_z j_z).natAbs ≤ 16000) (bY : ∀ j_z, 0 ≤ j_z → j_z < 4 → (Y j_z).natAbs ≤ 16000) (h_z : PaR M T' c m) (hee : gI M (c + 4) 5 = e_z) (hkk : gI M (c + 4) 6 = kk) (hp : gI T' m 33 = p') (h25 : gI T' m 25 = 0) : Pool M T' M2_z T5 c m ∧ PthR M2_z T5 c m e_z p' ∧ gI T5 (m + 15) p' = 1 ∧ gI M2_z (c + 8) (e_z + 1) - gI M2_z (c + 8) e_z = 4 := by
  obtain ⟨p1_z, p2_z, p3_z, ⟨p4_z, p4'⟩, p5_z, p6_z, p7_z, p8_z⟩ := h_z
  rw [hee] at p1_z p3_z p4_z p4' p5_z
  rw [hkk] at p2_z p4'
  rw [hp] at p3_z
  rw [h25] at p4'
  obtain ⟨⟨a1_z, a2, a3⟩, a4, a5, a6, a7, a8, -, -⟩ := hB_z
  obtain ⟨b1, b2, ⟨-, -, -, b33⟩, ⟨b4, b5, b6⟩, b7, b8, -⟩ := hT_z
  rw [← hM_z (c + 4) (by omega) (by omega)] at a1_z a2 a3
  rw [← hM_z (c + 5) (by omega) (by omega)] at a4
  rw [← hM_z (c + 6) (by omega) (by omega)] at a5
  rw [← hM_z (c + 7) (by omega) (by omega)] at a6
  rw [← hM_z (c + 8) (by omega) (by omega)] at a7
  rw [← hM_z (c + 9) (by omega) (by omega)] at a8
  have u1_z : gI M2_z (c + 8) e_z = kk := by rw [a7, upf_ne _ _ (by omega)]; omega
  have u2_z : gI M2_z (c + 8) (e_z + 1) = kk + 4 := by rw [a7, upf_at]
  refine ⟨⟨by omega, by omega, by omega, fun i_z i0_z i1_z => ?_, fun i_z i0_z i1_z => by rw [a7, upf_ne _ _ (by omega)], fun i_z i0_z i1_z => by rw [a8, upf_ne _ _ (by omega)], fun q_z q0 q1_z => ?_, fun i_z i0_z i1_z => ?_⟩, ?_, by rw [b8, upf_at], by omega⟩
  · rw [hkk] at i1_z
    rw [a4, a5, a6, up4_ne (by omega), up4_ne (by omega), up4_ne (by omega)]
    exact ⟨rfl, rfl, rfl⟩
  · rw [b7, b8, upf_ne _ _ (by omega), upf_ne _ _ (by omega), r8 _ (by omega) (by omega), r8 _ (by omega) (by omega)]
    exact ⟨rfl, rfl⟩
  · obtain ⟨q1_z, q2_z, q3_z⟩ := b6 i_z (by omega)
    rw [q1_z, q2_z, q3_z, r8 _ (by omega) (by omega), r8 _ (by omega) (by omega), r8 _ (by omega) (by omega)]
    exact ⟨rfl, rfl, rfl⟩
  · unfold PthR
    rw [u1_z, u2_z, a1_z, a2, b33, b7, b8, upf_at, upf_at, a4, a5, a6]
    refine ⟨by omega, by omega, by omega, by omega, by omega, by omega, by omega, ?_⟩
    rw [show kk + 4 - kk = 4 from by omega]
    exact PC.box bX_z bY (fun j_z j0 j1 => by rw [(b4 j_z j0 j1).1, (b4 j_z j0 j1).2]; exact rX j_z j0 j1) b5
end AZ
