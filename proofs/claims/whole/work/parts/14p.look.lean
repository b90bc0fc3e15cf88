/-! THE PURE PART, part 14: both sides find the same. Own work. -/
theorem lk_congr {f_z g_z : Nat → Int} : ∀ {n_z : Nat}, (∀ l, l < n_z → f_z l = g_z l) → lk f_z n_z = lk g_z n_z
  | 0, _ => rfl
  | n_z + 1, h_z => by
    have a_z := h_z n_z (Nat.lt_succ_self n_z)
    have b_z := lk_congr (f_z := f_z) (g_z := g_z) (n_z := n_z) (fun l hl => h_z l (by omega))
    show (if f_z n_z = 0 then lk f_z n_z else f_z n_z) = (if g_z n_z = 0 then lk g_z n_z else g_z n_z)
    rw [a_z, b_z]
theorem lk_from {f_z : Nat → Int} {P_z : Int → Prop} (h0 : P_z 0) : ∀ {n_z : Nat}, (∀ l, l < n_z → P_z (f_z l)) → P_z (lk f_z n_z)
  | 0, _ => h0
  | n_z + 1, h_z => by
    have b_z := lk_from (f_z := f_z) (P_z := P_z) h0 (n_z := n_z) (fun l hl => h_z l (by omega))
    show P_z (if f_z n_z = 0 then lk f_z n_z else f_z n_z)
    by_cases c : f_z n_z = 0
    · rw [if_pos c]
      exact b_z
    · rw [if_neg c]
      exact h_z n_z (Nat.lt_succ_self n_z)
section AM
variable {G : Env0} {Q : Option AV → Mem → Prop} {M T : Mem} {c s m r : Nat}
theorem Rel.strm {E_z : Int} {d_z : Nat} (h_z : Rel G M T c s m E_z) (hd_z : gI M c 11 = (d_z : Int)) : ∀ l : Nat, l ≤ d_z → 0 ≤ gI T (m + 17) l ∧ gI T (m + 17) l ≤ 6 ∧ gI M (c + 22 + 4 * l) 4 = gI T (m + 17) l - 1 := by
  obtain ⟨-, -, -, -, -, -, ⟨-, y4, -⟩, -⟩ := h_z
  intro l hl
  exact (y4 l (by omega)).1
theorem Rel.lk {E_z u_z : Int} {d_z : Nat} (h_z : Rel G M T c s m E_z) (hd_z : gI M c 11 = (d_z : Int)) (u0 : 0 ≤ u_z) (u1_z : u_z ≤ 7) : lk (fun l => gI M (s + 4) ((gI M (c + 22 + 4 * l) 4 + 1) * 8 + u_z)) (d_z + 1) = lk (fun l => gI T (m + 1) (1157 + 8 * gI T (m + 17) l + u_z)) (d_z + 1) ∧ (lk (fun l => gI T (m + 1) (1157 + 8 * gI T (m + 17) l + u_z)) (d_z + 1) = 0 ∨ (100 ≤ lk (fun l => gI T (m + 1) (1157 + 8 * gI T (m + 17) l + u_z)) (d_z + 1) ∧ lk (fun l => gI T (m + 1) (1157 + 8 * gI T (m + 17) l + u_z)) (d_z + 1) ≤ 115) ∨ (200 ≤ lk (fun l => gI T (m + 1) (1157 + 8 * gI T (m + 17) l + u_z)) (d_z + 1) ∧ lk (fun l => gI T (m + 1) (1157 + 8 * gI T (m + 17) l + u_z)) (d_z + 1) ≤ 205)) := by
  have st_z := h_z.strm hd_z
  obtain ⟨-, -, -, -, ⟨-, -, -, e4_z, -⟩, -⟩ := h_z
  have eq : ∀ l, l < d_z + 1 → (fun l : Nat => gI M (s + 4) ((gI M (c + 22 + 4 * l) 4 + 1) * 8 + u_z)) l = (fun l : Nat => gI T (m + 1) (1157 + 8 * gI T (m + 17) l + u_z)) l := fun l hl => by
    obtain ⟨a_z, b_z, e_z⟩ := st_z l (by omega)
    show gI M (s + 4) ((gI M (c + 22 + 4 * l) 4 + 1) * 8 + u_z) = gI T (m + 1) (1157 + 8 * gI T (m + 17) l + u_z)
    rw [e_z, show (gI T (m + 17) l - 1 + 1) * 8 + u_z = 8 * gI T (m + 17) l + u_z from by omega, (e4_z (8 * gI T (m + 17) l + u_z) (by omega) (by omega)).1, show 1157 + (8 * gI T (m + 17) l + u_z) = 1157 + 8 * gI T (m + 17) l + u_z from by omega]
  refine ⟨lk_congr eq, lk_from (P_z := fun v_z => v_z = 0 ∨ (100 ≤ v_z ∧ v_z ≤ 115) ∨ (200 ≤ v_z ∧ v_z ≤ 205)) (Or.inl rfl) (fun l hl => ?_)⟩
  obtain ⟨a_z, b_z, e_z⟩ := st_z l (by omega)
  have q_z := e4_z (8 * gI T (m + 17) l + u_z) (by omega) (by omega)
  rw [q_z.1, show 1157 + (8 * gI T (m + 17) l + u_z) = 1157 + 8 * gI T (m + 17) l + u_z from by omega] at q_z
  exact q_z.2
end AM
