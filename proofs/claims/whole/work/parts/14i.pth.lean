/-! THE PURE PART, part 14: a path ends. Own work. -/
section AG
variable {M T M1 T1 : Mem} {c m : Nat}
/-- the class ends its path, the model keeps it -/
theorem pth_new {e_z kk p_z n_z k_z : Int} (h_z : PaR M T c m) (hee : gI M (c + 4) 5 = e_z) (hkk : gI M (c + 4) 6 = kk) (hp : gI T m 33 = p_z) (hn : gI T m 25 = n_z) (hk : gI T m 26 = k_z) (f5_z : gI M1 (c + 4) 5 = e_z + 1) (f6_z : gI M1 (c + 4) 6 = kk) (r4 : gI M1 (c + 5) = gI M (c + 5)) (r5_z : gI M1 (c + 6) = gI M (c + 6)) (r6 : gI M1 (c + 7) = gI M (c + 7)) (r7 : gI M1 (c + 8) = upf (gI M (c + 8)) (e_z + 1) kk) (r8 : ∀ i_z, i_z ≤ e_z → gI M1 (c + 9) i_z = gI M (c + 9) i_z)
    (t33 : gI T1 m 33 = p_z + 1) (t11 : gI T1 (m + 11) = rc (gI T (m + 11)) (24 * p_z) (gI T (m + 8)) 0 n_z) (t12 : gI T1 (m + 12) = rc (gI T (m + 12)) (24 * p_z) (gI T (m + 9)) 0 n_z) (t13 : gI T1 (m + 13) = rc (gI T (m + 13)) (24 * p_z) (gI T (m + 10)) 0 n_z) (t14 : gI T1 (m + 14) = upf (gI T (m + 14)) p_z n_z) (t15 : gI T1 (m + 15) = upf (gI T (m + 15)) p_z k_z) (nz : 0 < n_z) : Pool M T M1 T1 c m ∧ PthR M1 T1 c m e_z p_z := by
  obtain ⟨p1_z, p2_z, p3_z, ⟨p4_z, p4'⟩, p5_z, p6_z, p7_z, p8_z⟩ := h_z
  rw [hee] at p1_z p3_z p4_z p4' p5_z
  rw [hkk] at p2_z p4'
  rw [hp] at p3_z
  rw [hn] at p4'
  rw [hn, hk] at p5_z
  have n0_z := p5_z.1
  have n24_z := p5_z.2.1
  have u1_z : upf (gI M (c + 8)) (e_z + 1) kk e_z = gI M (c + 8) e_z := upf_ne _ _ (by omega)
  have u2_z : upf (gI M (c + 8)) (e_z + 1) kk (e_z + 1) = kk := upf_at _ _ _
  refine ⟨⟨by omega, by omega, by omega, fun i_z _ _ => by rw [r4, r5_z, r6]; exact ⟨rfl, rfl, rfl⟩, fun i_z i0_z i1_z => by rw [r7, upf_ne _ _ (by omega)], fun i_z i0_z i1_z => r8 i_z (by omega), fun q_z q0 q1_z => by rw [t14, t15, upf_ne _ _ (by omega), upf_ne _ _ (by omega)]; exact ⟨rfl, rfl⟩, fun i_z i0_z i1_z => by rw [t11, t12, t13, rc_out _ _ (by omega), rc_out _ _ (by omega), rc_out _ _ (by omega)]; exact ⟨rfl, rfl, rfl⟩⟩, ?_⟩
  unfold PthR
  rw [f5_z, f6_z, r4, r5_z, r6, r7, u1_z, u2_z, t33, t11, t12, t13, t14, t15, upf_at, upf_at]
  refine ⟨by omega, by omega, by omega, by omega, by omega, by omega, by omega, ?_⟩
  rw [← p4']
  have hkn := PB.le p5_z.2.2.2 n0_z
  have s_z : ∀ (f_z g_z : Int → Int) (i_z : Int), 0 ≤ i_z → i_z < n_z → rc f_z (24 * p_z) g_z 0 n_z (24 * p_z + i_z) = g_z (0 + i_z) := fun f_z g_z i_z i0_z i1_z => by
    rw [rc_in _ _ (by omega), show (0 : Int) + (24 * p_z + i_z - 24 * p_z) = 0 + i_z from by omega]
  obtain ⟨q1_z, q2_z, q3_z, q4_z⟩ := p5_z
  refine ⟨q1_z, q2_z, fun i_z i0_z i1_z => ?_, PB.congr q4_z (fun i_z _ _ => rfl) (fun i_z i0_z i1_z => s_z _ _ i_z i0_z (by omega))⟩
  rw [s_z _ _ i_z i0_z i1_z, s_z _ _ i_z i0_z i1_z]
  exact q3_z i_z i0_z i1_z
/-- the class ends its path, the model drops it -/
theorem pth_drop {e_z kk : Int} (h_z : PaR M T c m) (hee : gI M (c + 4) 5 = e_z) (hkk : gI M (c + 4) 6 = kk) (f5_z : gI M1 (c + 4) 5 = e_z + 1) (f6_z : gI M1 (c + 4) 6 = kk) (r4 : gI M1 (c + 5) = gI M (c + 5)) (r5_z : gI M1 (c + 6) = gI M (c + 6)) (r6 : gI M1 (c + 7) = gI M (c + 7)) (r7 : gI M1 (c + 8) = upf (gI M (c + 8)) (e_z + 1) kk) (r8 : ∀ i_z, i_z ≤ e_z → gI M1 (c + 9) i_z = gI M (c + 9) i_z) (t33 : gI T1 m 33 = gI T m 33) (tr_z : ∀ a_z, m + 11 ≤ a_z → a_z ≤ m + 15 → gI T1 a_z = gI T a_z) : Pool M T M1 T1 c m := by
  obtain ⟨p1_z, p2_z, p3_z, p4_z, p5_z, p6_z, p7_z, p8_z⟩ := h_z
  rw [hee] at p1_z p3_z
  exact ⟨by omega, by omega, by omega, fun i_z _ _ => by rw [r4, r5_z, r6]; exact ⟨rfl, rfl, rfl⟩, fun i_z i0_z i1_z => by rw [r7, upf_ne _ _ (by omega)], fun i_z i0_z i1_z => r8 i_z (by omega), fun q_z q0 q1_z => by rw [tr_z (m + 14) (by omega) (by omega), tr_z (m + 15) (by omega) (by omega)]; exact ⟨rfl, rfl⟩, fun i_z i0_z i1_z => by rw [tr_z (m + 11) (by omega) (by omega), tr_z (m + 12) (by omega) (by omega), tr_z (m + 13) (by omega) (by omega)]; exact ⟨rfl, rfl, rfl⟩⟩
/-- no path is being made -/
theorem PaR.none {e_z kk : Int} (h_z : PaR M T c m) (hee : gI M (c + 4) 5 = e_z) (hkk : gI M (c + 4) 6 = kk) (e13_z : gI M1 c 13 = gI M c 13 + 1) (f5_z : gI M1 (c + 4) 5 = e_z + 1) (f6_z : gI M1 (c + 4) 6 = kk) (f7_z : gI M1 (c + 4) 7 = 0) (r7 : gI M1 (c + 8) (e_z + 1) = kk) (r8 : gI M1 (c + 9) (e_z + 1) = 0) (t33 : gI T1 m 33 = gI T m 33 ∨ gI T1 m 33 = gI T m 33 + 1) (t25 : gI T1 m 25 = 0) (t26 : gI T1 m 26 = 0) (t27 : gI T1 m 27 = 0) : PaR M1 T1 c m := by
  obtain ⟨p1_z, p2_z, p3_z, p4_z, p5_z, p6_z, p7_z, p8_z⟩ := h_z
  rw [hee] at p1_z p3_z
  rw [hkk] at p2_z
  unfold PaR
  rw [f5_z, f6_z, f7_z, e13_z, r7, r8, t25, t26, t27]
  refine ⟨by omega, by omega, by omega, by omega, ⟨by decide, by decide, fun i_z i0_z i1_z => by omega, by decide, fun _ => rfl, fun q_z => by omega, fun j_z j0 j1 => by omega, fun j_z j0 j1 => by omega, fun i_z i0_z i1_z => by omega⟩, fun _ => rfl, Or.inl ⟨rfl, rfl⟩, Or.inl rfl⟩
end AG
