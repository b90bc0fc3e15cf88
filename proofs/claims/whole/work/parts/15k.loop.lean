/-! THE PURE PART, part 15: the loops of a run. Own work. -/
section BE
variable {G : Env0} {Q : Option AV → Mem → Prop} {M T : Mem} {c s m : Nat}
theorem step_all {E_z i_z : Int} (h_z : Rel G M T c s m E_z) (i0_z : 0 ≤ i_z) (i1_z : i_z + 1 < 1000000) (hN_z : Nxt G c s m M E_z i_z Q) (hEr : Err G c s m M E_z Q) : HC G c s i_z M Q := by
  obtain ⟨d_z, x_z, n_z, tk, p_z, hd_z, ht, hp⟩ := h_z.top
  obtain ⟨u1_z, u2_z, u3, u4_z, u5, u6, u7, u8, u9, u10, u11, u12, u13, u14, u15, u16, u17⟩ := ht
  by_cases hlt : tk < n_z
  · have hc_z := hp.2.2.2.2.2.1 tk.toNat (by omega)
    rw [Int.toNat_of_nonneg u11] at hc_z
    rcases hc_z with ⟨c0_z, c1_z, c2_z⟩ | ⟨c0_z, -⟩
    · have hk2 : (cdm T m x_z tk.toNat).toNat < 23 := by omega
      generalize (cdm T m x_z tk.toNat).toNat = k_z at c2_z hk2
      have hk : k_z = 0 ∨ k_z = 1 ∨ k_z = 2 ∨ k_z = 3 ∨ k_z = 4 ∨ k_z = 5 ∨ k_z = 6 ∨ k_z = 7 ∨ k_z = 8 ∨ k_z = 9 ∨ k_z = 10 ∨ k_z = 11 ∨ k_z = 12 ∨ k_z = 13 ∨ k_z = 14 ∨ k_z = 15 ∨ k_z = 16 ∨ k_z = 17 ∨ k_z = 18 ∨ k_z = 19 ∨ k_z = 20 ∨ k_z = 21 ∨ k_z = 22 := by omega
      rcases hk with hk | hk | hk | hk | hk | hk | hk | hk | hk | hk | hk | hk | hk | hk | hk | hk | hk | hk | hk | hk | hk | hk | hk <;> subst hk
      · exact op_save h_z hd_z u6 u9 u7 u16 hlt c2_z i0_z i1_z hN_z hEr
      · exact op_restore h_z hd_z u6 u9 u7 u16 hlt c2_z i0_z i1_z hN_z hEr
      · exact op_concat h_z hd_z u6 u9 u7 u16 hlt c2_z i0_z i1_z hN_z hEr
      · exact op_move h_z hd_z u6 u9 u7 u16 hlt c2_z i0_z i1_z hN_z hEr
      · exact op_line h_z hd_z u6 u9 u7 u16 hlt c2_z i0_z i1_z hN_z hEr
      · exact op_close h_z hd_z u6 u9 u7 u16 hlt c2_z i0_z i1_z hN_z hEr
      · exact op_rect h_z hd_z u6 u9 u7 u16 hlt c2_z i0_z i1_z hN_z hEr
      · exact op_clip h_z hd_z u6 u9 u7 u16 hlt c2_z i0_z i1_z hN_z hEr
      · exact op_xclip h_z hd_z u6 u9 u7 u16 hlt c2_z i0_z i1_z hN_z hEr
      · exact op_end (by decide) h_z hd_z u6 u9 u7 u16 hlt c2_z i0_z i1_z hN_z hEr
      · exact op_end (by decide) h_z hd_z u6 u9 u7 u16 hlt c2_z i0_z i1_z hN_z hEr
      · exact op_end (by decide) h_z hd_z u6 u9 u7 u16 hlt c2_z i0_z i1_z hN_z hEr
      · exact op_color h_z hd_z u6 u9 u7 u16 hlt c2_z i0_z i1_z hN_z hEr
      · exact op_draw h_z hd_z u6 u9 u7 u16 hlt c2_z i0_z i1_z hN_z hEr
      · exact op_repeat h_z hd_z u6 u9 u7 u16 hlt c2_z i0_z i1_z hN_z hEr
      · exact step_next h_z hd_z u6 u9 u7 u16 hlt c2_z i0_z i1_z hN_z
      · exact op_dup h_z hd_z u6 u9 u7 u16 hlt c2_z i0_z i1_z hN_z hEr
      · exact op_pop h_z hd_z u6 u9 u7 u16 hlt c2_z i0_z i1_z hN_z hEr
      · exact op_exch h_z hd_z u6 u9 u7 u16 hlt c2_z i0_z i1_z hN_z hEr
      · exact op_calc (by decide) h_z hd_z u6 u9 u7 u16 hlt c2_z i0_z i1_z hN_z hEr
      · exact op_calc (by decide) h_z hd_z u6 u9 u7 u16 hlt c2_z i0_z i1_z hN_z hEr
      · exact op_calc (by decide) h_z hd_z u6 u9 u7 u16 hlt c2_z i0_z i1_z hN_z hEr
      · exact op_calc (by decide) h_z hd_z u6 u9 u7 u16 hlt c2_z i0_z i1_z hN_z hEr
    · exact step_lit h_z hd_z u6 u9 u7 u16 hlt c0_z i0_z i1_z hN_z hEr
  · by_cases d0_z : d_z = 0
    · subst d0_z
      exact step_fin h_z hd_z u6 u9 u7 u16 (by omega) i0_z i1_z hEr
    · exact step_end h_z hd_z (by omega) u6 u9 u7 u16 (by omega) i0_z i1_z hN_z
/-- a step has a next one -/
theorem nxt_ex {E_z E2 : Int} {M2_z : Mem} (h_z : Rel G M T c s m E_z) (sim : ∀ T', Rel G M T' c s m E_z → ∀ R_z, (∀ T2, OutM m T' T2 → Rel G M2_z T2 c s m E2 → HM G m T2 R_z) → HM G m T' R_z) : ∃ T2, OutM m T T2 ∧ Rel G M2_z T2 c s m E2 := by
  refine Classical.byContradiction (fun no_z => ?_)
  have hh := sim T h_z (fun _ _ => False) (fun T2 o r_z => absurd ⟨T2, o, r_z⟩ no_z)
  obtain ⟨_, _, q_z⟩ := At.ex hh
  exact q_z
theorem run_loop : ∀ (n_z : Nat) (E_z i_z : Int) (M T : Mem) (Q : Option AV → Mem → Prop), E_z ≤ n_z → Rel G M T c s m E_z → 0 ≤ i_z → i_z + E_z + 2 ≤ 1000000 → Err G c s m M E_z Q → HC G c s i_z M Q := by
  intro n_z
  induction n_z with
  | zero =>
    intro E_z i_z M T Q hE h_z i0_z i1_z hEr
    obtain ⟨d_z, x_z, n_z, tk, p_z, hd_z, -⟩ := h_z.top
    have := (h_z.2.2.2.2.2.2.1.pos hd_z (by have := h_z.2.2.2.2.2.1.2.2.1; omega)).2
    omega
  | succ n_z ih_z =>
    intro E_z i_z M T Q hE h_z i0_z i1_z hEr
    have e1_z : 1 ≤ E_z := by
      obtain ⟨d_z, x_z, n_z, tk, p_z, hd_z, -⟩ := h_z.top
      exact (h_z.2.2.2.2.2.2.1.pos hd_z (by have := h_z.2.2.2.2.2.1.2.2.1; omega)).2
    refine step_all h_z i0_z (by omega) (fun M2_z E2 hlt o sim => ?_) hEr
    obtain ⟨T2, o2, r2⟩ := nxt_ex h_z sim
    refine ih_z E2 (i_z + 1) M2_z T2 Q (by omega) r2 (by omega) (by omega) (fun M3_z e_z o3_z sim3 => hEr M3_z e_z (o.trans o3_z) (fun T' h' R_z hR => sim T' h' R_z (fun T2' o2' r2' => sim3 T2' r2' R_z (fun T3 o3' rs => hR T3 (Ex.trans o2' o3') rs))))
end BE
