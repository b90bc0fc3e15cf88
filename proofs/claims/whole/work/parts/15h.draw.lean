/-! THE PURE PART, part 15: draw, both sides. Own work. -/
section BC
variable {G : Env0} {Q : Option AV → Mem → Prop} {M T : Mem} {c s m r : Nat}
/-- what the model knows of a draw -/
theorem drw_N {E_z : Int} {d_z g_z p_z : Nat} {va w_z tp f_z n_z hb_z b0 b1 b2 b3 : Int} (h' : Rel G M T c s m E_z) (hd_z : gI M c 11 = (d_z : Int)) (hw : gI M (c + 22 + 4 * d_z) 6 = w_z) (w0_z : 1 ≤ w_z) (hv : gL M (c + 22 + 4 * d_z + 1) (w_z - 1) = va) (ht : gI M c 12 = tp) (hgg : c + 42 + 3 * tp.toNat = g_z) (f0_z : 0 ≤ f_z) (f1_z : f_z ≤ 5) (hp : gR M (s + 1) (f_z + 1) = p_z) (hn : gI M g_z 2 = n_z) (hhb : gI M (s + 2) f_z = hb_z) (x0_z : gI M (s + 3) (f_z * 4 + 0) = b0) (x1_z : gI M (s + 3) (f_z * 4 + 1) = b1) (x2_z : gI M (s + 3) (f_z * 4 + 2) = b2) (x3 : gI M (s + 3) (f_z * 4 + 3) = b3) (hb' : gI M c 13 < gI M s 6) : ShM T m ∧ gI T m 49 ≠ gI T (m + 1) 1215 ∧ gI T m 36 = (d_z : Int) ∧ gI T (m + 19) d_z = w_z ∧ gI T (m + 20) (16 * d_z + w_z - 1) = fu va ∧ gI T (m + 21) (16 * d_z + w_z - 1) = fd va ∧ GV T m (gL M (g_z + 1)) ∧ gI T (m + 1) (1127 + 5 * f_z) = hb_z ∧ (gI T (m + 1) (1127 + 5 * f_z + 1) = b0 ∧ gI T (m + 1) (1127 + 5 * f_z + 2) = b1 ∧ gI T (m + 1) (1127 + 5 * f_z + 3) = b2 ∧ gI T (m + 1) (1127 + 5 * f_z + 4) = b3) ∧ gI T (m + 6) 13 = n_z ∧ (0 ≤ gI T (m + 1) (161 * (f_z + 1)) ↔ p_z ≠ 0) ∧ (p_z ≠ 0 → lnm T m (f_z + 1) = gI M p_z 3 ∧ 0 ≤ gI M p_z 3 ∧ gI M p_z 3 < 160) ∧ ∀ l : Nat, l ≤ d_z → (gI T (m + 17) l = f_z + 1 ↔ gI M (c + 22 + 4 * l) 4 = f_z) := by
  obtain ⟨k1_z, k2_z, k3_z, -, -, k6_z⟩ := h'.opn hd_z
  have st_z := h'.strm hd_z
  rw [hw] at k3_z k6_z
  have o := k6_z (w_z - 1) (by omega) (by omega)
  rw [hv, show (16 : Int) * d_z + (w_z - 1) = 16 * d_z + w_z - 1 from by omega] at o
  obtain ⟨-, q2_z, -, -, q8_z, q9_z, -, q11_z, -⟩ := h'
  obtain ⟨e1_z, e2_z, e3_z, e4_z, e5_z, e6_z, e7_z⟩ := q8_z
  have bx := e3_z f_z f0_z (by omega)
  have bb0 := (bx.2.2 0 (by decide) (by decide)).1
  have bb1 := (bx.2.2 1 (by decide) (by decide)).1
  have bb2 := (bx.2.2 2 (by decide) (by decide)).1
  have bb3 := (bx.2.2 3 (by decide) (by decide)).1
  rw [show 4 * f_z + 0 = f_z * 4 + 0 from by omega, x0_z] at bb0
  rw [show 4 * f_z + 1 = f_z * 4 + 1 from by omega, x1_z] at bb1
  rw [show 4 * f_z + 2 = f_z * 4 + 2 from by omega, x2_z] at bb2
  rw [show 4 * f_z + 3 = f_z * 4 + 3 from by omega, x3] at bb3
  have tg := q11_z.2.2.2.1
  rw [ht, hgg] at tg
  have pr := e2_z (f_z + 1) (by omega) (by omega)
  rw [hp] at pr
  refine ⟨q2_z, ?_, k2_z, k3_z, o.1, o.2.1, fun i_z i0_z i1_z => tg.1 i_z i0_z i1_z, by rw [bx.2.1]; exact hhb, ⟨?_, ?_, ?_, ?_⟩, by rw [tg.2.2.2.1]; exact hn, ?_, fun q_z => ?_, fun l hl => ?_⟩
  · have := q9_z.1
    have := e7_z.1
    omega
  · rw [bb0, Int.add_zero]
  · rw [bb1, show 1127 + 5 * f_z + 1 + 1 = 1127 + 5 * f_z + 2 from by omega]
  · rw [bb2, show 1127 + 5 * f_z + 1 + 2 = 1127 + 5 * f_z + 3 from by omega]
  · rw [bb3, show 1127 + 5 * f_z + 1 + 3 = 1127 + 5 * f_z + 4 from by omega]
  · rcases pr with ⟨a1_z, a2⟩ | ⟨a1_z, a2⟩
    · unfold lnm at a1_z
      exact ⟨fun y_z => by omega, fun y_z => absurd a2 y_z⟩
    · unfold lnm at a1_z
      exact ⟨fun _ => a2.1, fun _ => a1_z⟩
  · rcases pr with ⟨a1_z, a2⟩ | ⟨a1_z, a2⟩
    · exact absurd a2 q_z
    · have := a2.2.2.1
      have := a2.2.2.2.1
      exact ⟨by omega, by omega, by omega⟩
  · have := st_z l hl
    exact ⟨fun y_z => by omega, fun y_z => by omega⟩
theorem drw_W {E_z : Int} {d_z g_z p_z : Nat} {va v_z w_z tp f_z n_z hb_z b0 b1 b2 b3 : Int} (h' : Rel G M T c s m E_z) (hd_z : gI M c 11 = (d_z : Int)) (d5_z : d_z < 5) (hw : gI M (c + 22 + 4 * d_z) 6 = w_z) (w0_z : 1 ≤ w_z) (w1_z : w_z ≤ 16) (hv : gL M (c + 22 + 4 * d_z + 1) (w_z - 1) = va) (hva : NV va ∨ (fd va = 0 ∧ 0 ≤ fu va ∧ fu va ≤ 7)) (ht : gI M c 12 = tp) (hgg : c + 42 + 3 * tp.toNat = g_z) (hCV : fd va = 0 → CV M c s d_z (fu va) = v_z) (v0_z : 0 ≤ v_z) (v1_z : v_z ≤ 205) (hvf : v_z / 100 = 2 → v_z = 200 + f_z) (f0_z : 0 ≤ f_z) (f1_z : f_z ≤ 5) (hp : gR M (s + 1) (f_z + 1) = p_z) (hn : gI M g_z 2 = n_z) (n6_z : n_z ≤ 6) (hhb : gI M (s + 2) f_z = hb_z) (x0_z : gI M (s + 3) (f_z * 4 + 0) = b0) (x1_z : gI M (s + 3) (f_z * 4 + 1) = b1) (x2_z : gI M (s + 3) (f_z * 4 + 2) = b2) (x3 : gI M (s + 3) (f_z * 4 + 3) = b3) (r0 : b0.natAbs ≤ 99) (r1_z : b1.natAbs ≤ 99) (r2 : b2.natAbs ≤ 99) (r3 : b3.natAbs ≤ 99) (hb' : gI M c 13 < gI M s 6)
    (h2 : fd va ≠ 0 → Q (some (a_i 2)) T) (h3 : fd va = 0 → ¬ (v_z / 100 = 2 ∧ p_z ≠ 0) → Q (some (a_i 3)) T) (h4 : fd va = 0 → v_z / 100 = 2 → p_z ≠ 0 → (∃ l : Nat, 1 ≤ l ∧ l ≤ d_z ∧ gI M (c + 22 + 4 * l) 4 = f_z) → Q (some (a_i 4)) T) (h6 : fd va = 0 → v_z / 100 = 2 → p_z ≠ 0 → ¬ (∃ l : Nat, 1 ≤ l ∧ l ≤ d_z ∧ gI M (c + 22 + 4 * l) 4 = f_z) → (d_z = 4 ∨ (hb_z ≠ 0 ∧ (6 ≤ n_z ∨ ¬ rGood (gL M (g_z + 1)) (pk b0 1) (pk b1 1) (pk b2 1) (pk b3 1)))) → ∀ T1, Sy T T1 m → Q (some (a_i 6)) T1)
    (hgo : fd va = 0 → v_z / 100 = 2 → p_z ≠ 0 → ¬ (∃ l : Nat, 1 ≤ l ∧ l ≤ d_z ∧ gI M (c + 22 + 4 * l) 4 = f_z) → d_z ≠ 4 → ∀ T1, Sy T T1 m → (hb_z ≠ 0 → n_z < 6 ∧ rGood (gL M (g_z + 1)) (pk b0 1) (pk b1 1) (pk b2 1) (pk b3 1) ∧ ∀ k_z, 0 ≤ k_z → k_z < 4 → gI T1 (m + 27) k_z = dv (gL M (g_z + 1)) (pX (pk b0 1) (pk b2 1) k_z) (pY (pk b1 1) (pk b3 1) k_z) 0 ∧ gI T1 (m + 28) k_z = dv (gL M (g_z + 1)) (pX (pk b0 1) (pk b2 1) k_z) (pY (pk b1 1) (pk b3 1) k_z) 1) → Q (some (a_i 0)) T1) : Call G J_M_wrong [a_r m, a_i 13] T Q := by
  have nm : fd va = 0 → 0 ≤ fu va ∧ fu va ≤ 7 := fun c0_z => by
    rcases hva with q_z | q_z
    · have := q_z.2.2.1
      omega
    · exact q_z.2
  obtain ⟨y1, y2, y3, y4, y5, y6, y7, y8, ⟨y9, y10, y11, y12⟩, y13, y14, y15, y16⟩ := drw_N h' hd_z hw w0_z hv ht hgg f0_z f1_z hp hn hhb x0_z x1_z x2_z x3 hb'
  have nx : ¬ (∃ l : Nat, 1 ≤ l ∧ l ≤ d_z ∧ gI T (m + 17) l = f_z + 1) → ¬ (∃ l : Nat, 1 ≤ l ∧ l ≤ d_z ∧ gI M (c + 22 + 4 * l) 4 = f_z) := fun q_z ⟨l, l0, l1, l2⟩ => q_z ⟨l, l0, l1, (y16 l l1).mpr l2⟩
  refine X_wrongD (v_z := v_z) (f_z := f_z) (b0 := b0) (b1 := b1) (b2 := b2) (b3 := b3) (n_z := n_z) (mt_z := gL M (g_z + 1)) y1 y2 y3 y4 d5_z w0_z w1_z y6 v0_z v1_z hvf (fun c0_z T2 hT2 qq hqq => ?_) f0_z f1_z y7 y9 y10 y11 y12 r0 r1_z r2 r3 y13 h2 (fun c0_z q_z => h3 c0_z (fun z_z => q_z ⟨z_z.1, y14.mpr z_z.2⟩)) (fun c0_z q_z qs ⟨l, l0, l1, l2⟩ => h4 c0_z q_z (y14.mp qs) ⟨l, l0, l1, (y16 l l1).mp l2⟩) (fun c0_z q_z qs qx q4_z => h6 c0_z q_z (y14.mp qs) (nx qx) (Or.inl q4_z) _ (sy_fl0 _ _)) (fun c0_z q_z qs qx q4_z qb => hgo c0_z q_z (y14.mp qs) (nx qx) q4_z _ (sy_fl0 _ _) (fun z_z => absurd (y8.symm.trans qb) z_z)) (fun c0_z q_z qs qx q4_z qb T1 hy => ⟨fun z_z => ?_, fun n7 rg co => ?_⟩)
  · rcases hT2 with e_z | e_z
    · subst e_z
      exact Rel.found h' hd_z y1 rfl rfl y3 y4 w0_z w1_z y5 (nm c0_z).1 (nm c0_z).2 (by rw [hCV c0_z]; exact hqq)
    · subst e_z
      exact Rel.found (T3 := uI T m 16 0) h' hd_z y1 (by rw [rI_ne (by omega)]) (by rw [rI_ne (by omega)]) (by rw [rI_nk (by decide)]; exact y3) (by rw [rI_ne (by omega)]; exact y4) w0_z w1_z (by rw [rI_ne (by omega)]; exact y5) (nm c0_z).1 (nm c0_z).2 (by rw [hCV c0_z]; exact hqq)
  · rw [y8] at qb
    refine h6 c0_z q_z (y14.mp qs) (nx qx) (Or.inr ⟨qb, ?_⟩) T1 hy
    rcases z_z with z_z | z_z
    · exact Or.inl (by clear nx qx; omega)
    · exact Or.inr z_z
  · exact hgo c0_z q_z (y14.mp qs) (nx qx) q4_z T1 hy (fun _ => ⟨by clear nx qx; omega, rg, co⟩)
end BC
