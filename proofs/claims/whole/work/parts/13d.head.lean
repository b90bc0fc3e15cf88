/-! THE PURE PART, part 13: the two loops, up to the token that comes next. Own work. -/
/-- the class's loop -/
def HC (G : Env0) (c s : Nat) (i_z : Int) (M : Mem) (Q : Option AV → Mem → Prop) : Prop := ∀ u4_z u5 u6 u7 : AV, At G 73 9 [a_r c, a_r s, a_i 1, a_i i_z, u4_z, u5, u6, u7] [] M Q
/-- the model's loop -/
def HM (G : Env0) (m : Nat) (T : Mem) (R_z : Option AV → Mem → Prop) : Prop := At G 197 131 [a_r m, a_i 1] [] T R_z
/-- what is known of the frame on top, its program p and its stream of n tokens -/
def Top (G : Env0) (M T : Mem) (s m r_z : Nat) (d : Nat) (x n tk : Int) (p : Nat) : Prop :=
  gI T m 36 = (d : Int) ∧ d < 5 ∧ gI T (m + 17) d = x ∧ 0 ≤ x ∧ x ≤ 6 ∧ gI M r_z 4 = x - 1 ∧ gR M r_z 3 = p ∧ lnm T m x = n ∧ gI M r_z 5 = tk ∧ gI T (m + 18) d = tk ∧ 0 ≤ tk ∧ tk ≤ n ∧ n < 160 ∧ p ≠ 0 ∧ ShPg M p ∧ gI M p 3 = n ∧ gI T (m + 1) (161 * x) = n
theorem Rel.top {G : Env0} {M T : Mem} {c s m : Nat} {E_z : Int} (h_z : Rel G M T c s m E_z) : ∃ (d : Nat) (x n tk : Int) (p : Nat), gI M c 11 = (d : Int) ∧ Top G M T s m (c + 22 + 4 * d) d x n tk p ∧ PgR G M p n.toNat (cdm T m x) := by
  obtain ⟨hs, hm_z, ho, hsc, hed, htr, hfr, hgs, hpa, hit_z, hx, hb_z⟩ := h_z
  have hd0 := hfr.1.2.1
  obtain ⟨d, hd_z⟩ := Int.eq_ofNat_of_zero_le hd0
  obtain ⟨g1, g2, g3_z, g4⟩ := hfr.get hd_z
  obtain ⟨⟨a1_z, a2, a3⟩, ⟨b1, b2⟩, ⟨c1_z, c2_z, c3_z⟩, f_z⟩ := g3_z
  have hp := EdR.prog hed a1_z (by omega) b2
  have hp2 := hp
  obtain ⟨p1_z, p2_z, p3_z, p4_z, p5_z⟩ := hp
  refine ⟨d, _, _, _, _, hd_z, ⟨g2, g1, rfl, a1_z, a2, a3, b1, rfl, c1_z, rfl, c2_z, c3_z, by omega, p1_z, p2_z, by omega, rfl⟩, hp2⟩
/-- what the class's loop needs behind a step that goes well -/
def Nxt (G : Env0) (c s m : Nat) (M : Mem) (E_z i_z : Int) (Q : Option AV → Mem → Prop) : Prop := ∀ M2_z E2, E2 < E_z → OutC c M M2_z → (∀ T', Rel G M T' c s m E_z → ∀ R_z, (∀ T2, OutM m T' T2 → Rel G M2_z T2 c s m E2 → HM G m T2 R_z) → HM G m T' R_z) → HC G c s (i_z + 1) M2_z Q
/-- .. and behind an error -/
def Err (G : Env0) (c s m : Nat) (M : Mem) (E_z : Int) (Q : Option AV → Mem → Prop) : Prop := ∀ M2_z e_z, OutC c M M2_z → (∀ T', Rel G M T' c s m E_z → ∀ R_z, (∀ T2, OutM m T' T2 → RsR M2_z T2 c m → R_z (some (a_i e_z)) T2) → HM G m T' R_z) → Q (some (a_i e_z)) M2_z
section TA
variable {G : Env0} {Q : Option AV → Mem → Prop} {M T : Mem} {c s m : Nat} {d p : Nat} {x n tk : Int}
theorem HC_body {i_z : Int} (hs : ShMa M c) (hd_z : gI M c 11 = (d : Int)) (ht : Top G M T s m (c + 22 + 4 * d) d x n tk p) (i0_z : 0 ≤ i_z) (i1_z : i_z < 1000000) (h_z : ∀ u5 u6 u7, At G 73 35 [a_r c, a_r s, a_i 1, a_i i_z, a_r (c + 22 + 4 * d), u5, u6, u7] [a_i (zB (n ≤ tk))] M Q) : HC G c s i_z M Q := by
  obtain ⟨t1_z, t2_z, t3_z, t4_z, t5_z, t6, t7, t8, t9, t10, t11, t12, t13, t14, t15, t16, t17⟩ := ht
  obtain ⟨f1_z, f2_z⟩ := hs.fr (d_z := (d : Int)) (by omega) (by omega)
  rw [Int.toNat_natCast] at f1_z f2_z
  have hE := fun qq => X_isAtEnd (G := G) (Q := qq) f2_z t7 t14 t15 (by omega)
  rw [t16, t9] at hE
  intro u4_z u5 u6 u7
  rw [B_73_9]
  simp (disch := omega) only [hs.1.u, hd_z, f1_z, f2_z.u, hE, inI, inL, isT, kInt, kByt, true_and, and_true, an_t, im_t, im_f, or_true, true_or, true_imp_iff, false_imp_iff, not_true_eq_false, not_false_eq_true, gK_uI, gK_uL, gK_uR, gK_uCI, gK_uCL, gN_uI, gN_uL, gN_uR, gN_uCI, gN_uCL, gR_uI, gR_uL, gR_uCI, gR_uCL, gI_uL, gI_uR, gI_uCL, gL_uI, gL_uR, gL_uCI, gz_uI, gz_uL, gz_uR, gz_uCI, gz_uCL, gs_uI, gs_uL, gs_uR, gs_uCI, gs_uCL, rI_at, rL_at, rR_at, rI_ne, rL_ne, rR_ne, rI_nk, rL_nk, rR_nk, rI_eq, rL_eq, rR_eq, Option.toList_some, Option.toList_none, List.cons_append, List.nil_append, List.append_nil, zc_eq, zc_lt, zc_le, zc_ge, zc_gt]
  exact h_z u5 u6 u7
theorem HM_tok {R_z : Option AV → Mem → Prop} (hm_z : ShM T m) (ht : Top G M T s m (c + 22 + 4 * d) d x n tk p) (hlt : tk < n) (h_z : Call G J_M_executes [a_r m, a_i (cdm T m x tk.toNat)] T (fun r_z T2 => At G 197 231 [a_r m, a_i 1] r_z.toList T2 R_z)) : HM G m T R_z := by
  obtain ⟨t1_z, t2_z, t3_z, t4_z, t5_z, t6, t7, t8, t9, t10, t11, t12, t13, t14, t15, t16, t17⟩ := ht
  have et : cdm T m x tk.toNat = gI T (m + 1) (161 * gI T (m + 17) (gI T m 36) + 1 + tk) := by
    unfold cdm
    rw [t1_z, t3_z, Int.toNat_of_nonneg t11]
  have e0_z : (0 : Int) + 161 * x = 161 * x := by omega
  have hne : ¬ tk = n := by omega
  have hT_z := fun qq => X_tokenAt (G := G) (Q := qq) (M := T) (m := m) (k_z := tk) hm_z (by omega) (by omega) (by rw [t1_z, t3_z]; omega) (by rw [t1_z, t3_z]; omega) t11 (by omega)
  rw [← et] at hT_z
  unfold HM
  rw [B_197_131]
  simp (disch := omega) only [hm_z.u, t1_z, t3_z, t10, e0_z, t17, hne, B_197_214, hT_z, B_197_228, inI, inL, isT, kInt, kByt, true_and, and_true, an_t, im_t, im_f, or_true, true_or, true_imp_iff, false_imp_iff, not_true_eq_false, not_false_eq_true, gK_uI, gK_uL, gK_uR, gK_uCI, gK_uCL, gN_uI, gN_uL, gN_uR, gN_uCI, gN_uCL, gR_uI, gR_uL, gR_uCI, gR_uCL, gI_uL, gI_uR, gI_uCL, gL_uI, gL_uR, gL_uCI, gz_uI, gz_uL, gz_uR, gz_uCI, gz_uCL, gs_uI, gs_uL, gs_uR, gs_uCI, gs_uCL, rI_at, rL_at, rR_at, rI_ne, rL_ne, rR_ne, rI_nk, rL_nk, rR_nk, rI_eq, rL_eq, rR_eq, Option.toList_some, Option.toList_none, List.cons_append, List.nil_append, List.append_nil, zc_eq, zc_lt, zc_le, zc_ge, zc_gt]
  all_goals exact h_z
end TA
