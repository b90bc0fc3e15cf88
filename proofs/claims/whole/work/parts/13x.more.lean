/-! THE PURE PART, part 13: move and line. Own work (partly written by a program of its own). -/
theorem PB.add {F_z F' Bg Bg' : Int → Int} {n_z k_z k' : Int} (h_z : PB F_z n_z Bg k_z) (n0_z : 0 ≤ n_z) (e1_z : ∀ i_z, 0 ≤ i_z → i_z < n_z → F' i_z = F_z i_z) (e2_z : ∀ i_z, 0 ≤ i_z → i_z < k_z → Bg' i_z = Bg i_z) (f_z : (F' n_z = 1 ∧ k' = k_z + 1 ∧ Bg' k_z = n_z) ∨ (F' n_z = 0 ∧ k' = k_z ∧ 0 < n_z)) : PB F' (n_z + 1) Bg' k' := by
  obtain ⟨h1, h2, h3, h4, h5, h6⟩ := h_z
  rcases f_z with ⟨f1_z, f2_z, f3_z⟩ | ⟨f1_z, f2_z, f3_z⟩
  · subst f2_z
    refine ⟨by omega, fun q_z => by omega, fun _ => ⟨by omega, ?_⟩, fun j_z j0 j1 => ?_, fun j_z j0 j1 => ?_, fun i_z i0_z i1_z q_z => ?_⟩
    · by_cases c : 0 < n_z
      · obtain ⟨a_z, b_z⟩ := h3 c
        rw [e2_z 0 (by omega) a_z]
        exact b_z
      · have q_z := h2 (by omega)
        rw [q_z] at f3_z
        rw [f3_z]
        omega
    · by_cases c : j_z = k_z
      · subst c
        rw [f3_z]
        exact ⟨n0_z, by omega, f1_z⟩
      · obtain ⟨a_z, b_z, d_z⟩ := h4 j_z j0 (by omega)
        rw [e2_z j_z j0 (by omega)]
        exact ⟨a_z, by omega, by rw [e1_z _ a_z b_z]; exact d_z⟩
    · by_cases c : j_z + 1 = k_z
      · rw [c, f3_z, e2_z j_z j0 (by omega)]
        exact (h4 j_z j0 (by omega)).2.1
      · rw [e2_z j_z j0 (by omega), e2_z (j_z + 1) (by omega) (by omega)]
        exact h5 j_z j0 (by omega)
    · by_cases c : i_z = n_z
      · exact ⟨k_z, h1, by omega, by rw [f3_z, c]⟩
      · rw [e1_z i_z i0_z (by omega)] at q_z
        obtain ⟨j_z, j0, j1, j2_z⟩ := h6 i_z i0_z (by omega) q_z
        exact ⟨j_z, j0, by omega, by rw [e2_z j_z j0 j1]; exact j2_z⟩
  · subst f2_z
    obtain ⟨a3, b3⟩ := h3 f3_z
    refine ⟨by omega, fun q_z => by omega, fun _ => ⟨a3, by rw [e2_z 0 (by omega) a3]; exact b3⟩, fun j_z j0 j1 => ?_, fun j_z j0 j1 => ?_, fun i_z i0_z i1_z q_z => ?_⟩
    · obtain ⟨a_z, b_z, d_z⟩ := h4 j_z j0 (by omega)
      rw [e2_z j_z j0 (by omega)]
      exact ⟨a_z, by omega, by rw [e1_z _ a_z b_z]; exact d_z⟩
    · rw [e2_z j_z j0 (by omega), e2_z (j_z + 1) (by omega) (by omega)]
      exact h5 j_z j0 (by omega)
    · by_cases c : i_z = n_z
      · rw [c, f1_z] at q_z
        omega
      · rw [e1_z i_z i0_z (by omega)] at q_z
        obtain ⟨j_z, j0, j1, j2_z⟩ := h6 i_z i0_z (by omega) q_z
        exact ⟨j_z, j0, by omega, by rw [e2_z j_z j0 j1]; exact j2_z⟩
/-- one more point -/
theorem PC.add {xs ys fl_z xs' ys' fl' : Int → Int} {a_z n_z : Int} {mx_z my mb mx' my' mb' : Int → Int} {b_z k_z k' X_z Y : Int} (h_z : PC xs ys fl_z a_z n_z mx_z my mb b_z k_z) (hn : n_z < 24) (e1_z : ∀ i_z, 0 ≤ i_z → i_z < n_z → xs' (a_z + i_z) = xs (a_z + i_z) ∧ ys' (a_z + i_z) = ys (a_z + i_z) ∧ fl' (a_z + i_z) = fl_z (a_z + i_z)) (e2_z : ∀ i_z, 0 ≤ i_z → i_z < n_z → mx' (b_z + i_z) = mx_z (b_z + i_z) ∧ my' (b_z + i_z) = my (b_z + i_z)) (e3_z : ∀ i_z, 0 ≤ i_z → i_z < k_z → mb' (b_z + i_z) = mb (b_z + i_z)) (x1_z : xs' (a_z + n_z) = X_z) (y1 : ys' (a_z + n_z) = Y) (x2_z : mx' (b_z + n_z) = X_z) (y2 : my' (b_z + n_z) = Y) (bx : X_z.natAbs ≤ 16000) (bd : Y.natAbs ≤ 16000) (f_z : (fl' (a_z + n_z) = 1 ∧ k' = k_z + 1 ∧ mb' (b_z + k_z) = n_z) ∨ (fl' (a_z + n_z) = 0 ∧ k' = k_z ∧ 0 < n_z)) : PC xs' ys' fl' a_z (n_z + 1) mx' my' mb' b_z k' := by
  obtain ⟨h1, h2, h3, h4⟩ := h_z
  refine ⟨by omega, by omega, fun i_z i0_z i1_z => ?_, PB.add h4 h1 (fun i_z i0_z i1_z => (e1_z i_z i0_z i1_z).2.2) e3_z f_z⟩
  by_cases c : i_z = n_z
  · subst c
    rw [x1_z, y1, x2_z, y2]
    refine ⟨rfl, rfl, bx, bd, ?_⟩
    rcases f_z with ⟨q_z, -⟩ | ⟨q_z, -⟩
    · exact Or.inr q_z
    · exact Or.inl q_z
  · obtain ⟨q1_z, q2_z, q3_z⟩ := e1_z i_z i0_z (by omega)
    obtain ⟨q4_z, q5_z⟩ := e2_z i_z i0_z (by omega)
    rw [q1_z, q2_z, q3_z, q4_z, q5_z]
    exact h3 i_z i0_z (by omega)
section PB2
variable {G : Env0} {Q : Option AV → Mem → Prop} {M T : Mem} {c s m : Nat}
/-- the operands are numbers, in the model too -/
theorem Rel.nums {E_z w_z : Int} {d_z k_z : Nat} (h' : Rel G M T c s m E_z) (hd_z : gI M c 11 = (d_z : Int)) (hwd : gI M (c + 22 + 4 * d_z) 6 = w_z) (hb_z : gI M c 13 < gI M s 6) (hk : k_z < 12 ∨ (18 < k_z ∧ k_z ≤ 22)) (hw : need k_z ≤ w_z) (hg : ∀ i_z, 0 ≤ i_z → i_z < need k_z → NV (gL M (c + 22 + 4 * d_z + 1) (w_z - 1 - i_z))) : ShM T m ∧ gI T m 36 = (d_z : Int) ∧ gI T (m + 19) d_z = w_z ∧ gI T m 49 ≠ gI T (m + 1) 1215 ∧ (∀ i_z, 0 ≤ i_z → i_z < w_z → gI T (m + 20) (16 * d_z + w_z - 1 - i_z) = fu (gL M (c + 22 + 4 * d_z + 1) (w_z - 1 - i_z)) ∧ gI T (m + 21) (16 * d_z + w_z - 1 - i_z) = fd (gL M (c + 22 + 4 * d_z + 1) (w_z - 1 - i_z))) ∧ ∀ qq : Option AV → Mem → Prop, qq (some (a_i 1)) T → Call G J_M_areOperands [a_r m, a_i (k_z : Int)] T qq := by
  obtain ⟨k1_z, k2_z, k3_z, w0_z, w1_z, k6_z⟩ := h'.opn hd_z
  obtain ⟨q1_z, q2_z, q3_z, -, q8_z, q9_z, -⟩ := h'
  have hb' : gI T m 49 ≠ gI T (m + 1) 1215 := by
    have := q9_z.1
    have := q8_z.2.2.2.2.2.2.1
    omega
  rw [hwd] at k3_z k6_z w0_z w1_z
  have ops : ∀ i_z, 0 ≤ i_z → i_z < w_z → gI T (m + 20) (16 * d_z + w_z - 1 - i_z) = fu (gL M (c + 22 + 4 * d_z + 1) (w_z - 1 - i_z)) ∧ gI T (m + 21) (16 * d_z + w_z - 1 - i_z) = fd (gL M (c + 22 + 4 * d_z + 1) (w_z - 1 - i_z)) := fun i_z i0_z i1_z => by
    have o := k6_z (w_z - 1 - i_z) (by omega) (by omega)
    rw [show (16 : Int) * d_z + (w_z - 1 - i_z) = 16 * d_z + w_z - 1 - i_z from by omega] at o
    exact ⟨o.1, o.2.1⟩
  refine ⟨q2_z, k2_z, k3_z, hb', ops, fun qq hqq => X_areOpsN q2_z k2_z k3_z (by omega) (by omega) w0_z w1_z (by omega) (by omega) (by omega) hw (fun z_z hz => ?_)⟩
  rcases hz with ⟨z1, -⟩ | ⟨z1, i_z, i0_z, i1_z, hz⟩
  · rw [z1]
    exact hqq
  · have o := (ops i_z i0_z (by omega)).2
    have nv := (hg i_z i0_z i1_z).2.2.1
    rw [o] at hz
    omega
end PB2
