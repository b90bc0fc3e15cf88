/-! THE PURE PART, part 10: rows to rewrite with. Own work. -/
theorem rI_at {M_z : Mem} {r_z : Nat} {k_z v_z : Int} : gI (uI M_z r_z k_z v_z) r_z k_z = v_z := by rw [gI_uI]; exact if_pos ⟨rfl, rfl⟩
theorem rL_at {M_z : Mem} {r_z : Nat} {k_z v_z : Int} : gL (uL M_z r_z k_z v_z) r_z k_z = v_z := by rw [gL_uL]; exact if_pos ⟨rfl, rfl⟩
theorem rR_at {M_z : Mem} {r_z : Nat} {k_z : Int} {v_z : Nat} : gR (uR M_z r_z k_z v_z) r_z k_z = v_z := by rw [gR_uR]; exact if_pos ⟨rfl, rfl⟩
theorem rI_eq {M_z : Mem} {r_z a_z : Nat} {k_z j_z v_z : Int} (h_z : a_z = r_z) (h2 : j_z = k_z) : gI (uI M_z r_z k_z v_z) a_z j_z = v_z := by rw [gI_uI]; exact if_pos ⟨h_z, h2⟩
theorem rL_eq {M_z : Mem} {r_z a_z : Nat} {k_z j_z v_z : Int} (h_z : a_z = r_z) (h2 : j_z = k_z) : gL (uL M_z r_z k_z v_z) a_z j_z = v_z := by rw [gL_uL]; exact if_pos ⟨h_z, h2⟩
theorem rR_eq {M_z : Mem} {r_z a_z : Nat} {k_z j_z : Int} {v_z : Nat} (h_z : a_z = r_z) (h2 : j_z = k_z) : gR (uR M_z r_z k_z v_z) a_z j_z = v_z := by rw [gR_uR]; exact if_pos ⟨h_z, h2⟩
theorem rI_ne {M_z : Mem} {r_z a_z : Nat} {k_z v_z : Int} (h_z : a_z ≠ r_z) : gI (uI M_z r_z k_z v_z) a_z = gI M_z a_z := by funext j; rw [gI_uI]; exact if_neg (fun c_z => h_z c_z.1)
theorem rL_ne {M_z : Mem} {r_z a_z : Nat} {k_z v_z : Int} (h_z : a_z ≠ r_z) : gL (uL M_z r_z k_z v_z) a_z = gL M_z a_z := by funext j; rw [gL_uL]; exact if_neg (fun c_z => h_z c_z.1)
theorem rR_ne {M_z : Mem} {r_z a_z : Nat} {k_z : Int} {v_z : Nat} (h_z : a_z ≠ r_z) : gR (uR M_z r_z k_z v_z) a_z = gR M_z a_z := by funext j; rw [gR_uR]; exact if_neg (fun c_z => h_z c_z.1)
theorem rI_nk {M_z : Mem} {r_z a_z : Nat} {k_z j_z v_z : Int} (h_z : j_z ≠ k_z) : gI (uI M_z r_z k_z v_z) a_z j_z = gI M_z a_z j_z := by rw [gI_uI]; exact if_neg (fun c_z => h_z c_z.2)
theorem rL_nk {M_z : Mem} {r_z a_z : Nat} {k_z j_z v_z : Int} (h_z : j_z ≠ k_z) : gL (uL M_z r_z k_z v_z) a_z j_z = gL M_z a_z j_z := by rw [gL_uL]; exact if_neg (fun c_z => h_z c_z.2)
theorem rR_nk {M_z : Mem} {r_z a_z : Nat} {k_z j_z : Int} {v_z : Nat} (h_z : j_z ≠ k_z) : gR (uR M_z r_z k_z v_z) a_z j_z = gR M_z a_z j_z := by rw [gR_uR]; exact if_neg (fun c_z => h_z c_z.2)
theorem rCI_ne {M_z : Mem} {a_z r_z b_z : Nat} {i_z j_z n_z : Int} (h_z : r_z ≠ a_z) : gI (uCI M_z a_z i_z b_z j_z n_z) r_z = gI M_z r_z := by funext k; rw [gI_uCI]; exact if_neg (fun c_z => h_z c_z.1)
theorem rCL_ne {M_z : Mem} {a_z r_z b_z : Nat} {i_z j_z n_z : Int} (h_z : r_z ≠ a_z) : gL (uCL M_z a_z i_z b_z j_z n_z) r_z = gL M_z r_z := by funext k; rw [gL_uCL]; exact if_neg (fun c_z => h_z c_z.1)
theorem rCI_in {M_z : Mem} {a_z r_z b_z : Nat} {i_z j_z n_z k_z : Int} (h_z : r_z = a_z ∧ i_z ≤ k_z ∧ k_z < i_z + n_z) : gI (uCI M_z a_z i_z b_z j_z n_z) r_z k_z = gI M_z b_z (j_z + (k_z - i_z)) := by rw [gI_uCI]; exact if_pos h_z
theorem rCL_in {M_z : Mem} {a_z r_z b_z : Nat} {i_z j_z n_z k_z : Int} (h_z : r_z = a_z ∧ i_z ≤ k_z ∧ k_z < i_z + n_z) : gL (uCL M_z a_z i_z b_z j_z n_z) r_z k_z = gL M_z b_z (j_z + (k_z - i_z)) := by rw [gL_uCL]; exact if_pos h_z
theorem rCI_out {M_z : Mem} {a_z r_z b_z : Nat} {i_z j_z n_z k_z : Int} (h_z : ¬ (r_z = a_z ∧ i_z ≤ k_z ∧ k_z < i_z + n_z)) : gI (uCI M_z a_z i_z b_z j_z n_z) r_z k_z = gI M_z r_z k_z := by rw [gI_uCI]; exact if_neg h_z
theorem rCL_out {M_z : Mem} {a_z r_z b_z : Nat} {i_z j_z n_z k_z : Int} (h_z : ¬ (r_z = a_z ∧ i_z ≤ k_z ∧ k_z < i_z + n_z)) : gL (uCL M_z a_z i_z b_z j_z n_z) r_z k_z = gL M_z r_z k_z := by rw [gL_uCL]; exact if_neg h_z
theorem bq_t {c_z A_z B_z : Prop} (h_z : c_z) : ((c_z → A_z) ∧ (¬ c_z → B_z)) ↔ A_z := ⟨fun q_z => q_z.1 h_z, fun a_z => ⟨fun _ => a_z, fun n_z => absurd h_z n_z⟩⟩
theorem bq_f {c_z A_z B_z : Prop} (h_z : ¬ c_z) : ((c_z → A_z) ∧ (¬ c_z → B_z)) ↔ B_z := ⟨fun q_z => q_z.2 h_z, fun a_z => ⟨fun n_z => absurd n_z h_z, fun _ => a_z⟩⟩
theorem bq_g {c_z A_z B_z : Prop} (h_z : ¬ c_z) : ((¬ c_z → A_z) ∧ (c_z → B_z)) ↔ A_z := ⟨fun q_z => q_z.1 h_z, fun a_z => ⟨fun _ => a_z, fun n_z => absurd n_z h_z⟩⟩
theorem bq_u {c_z A_z B_z : Prop} (h_z : c_z) : ((¬ c_z → A_z) ∧ (c_z → B_z)) ↔ B_z := ⟨fun q_z => q_z.2 h_z, fun a_z => ⟨fun n_z => absurd h_z n_z, fun _ => a_z⟩⟩
theorem an_t {P_z A_z : Prop} (h_z : P_z) : (P_z ∧ A_z) ↔ A_z := ⟨fun q_z => q_z.2, fun a_z => ⟨h_z, a_z⟩⟩
theorem an_r {P_z A_z : Prop} (h_z : A_z) : (P_z ∧ A_z) ↔ P_z := ⟨fun q_z => q_z.1, fun a_z => ⟨a_z, h_z⟩⟩
theorem im_t {c_z A_z : Prop} (h_z : c_z) : (c_z → A_z) ↔ A_z := ⟨fun q_z => q_z h_z, fun a_z _ => a_z⟩
theorem im_f {c_z A_z : Prop} (h_z : ¬ c_z) : (c_z → A_z) ↔ True := ⟨fun _ => trivial, fun _ q_z => absurd q_z h_z⟩
/-- a frame's shape -/
abbrev ShFrx (M_z : Mem) (r_z : Nat)  : Prop := gK M_z r_z = 8 ∧ gR M_z r_z 0 = r_z + 1 ∧ gR M_z r_z 1 = r_z + 2 ∧ gR M_z r_z 2 = r_z + 3 ∧ gK M_z (r_z + 1) = 101 ∧ gN M_z (r_z + 1) = 16 ∧ gK M_z (r_z + 2) = 100 ∧ gN M_z (r_z + 2) = 3 ∧ gK M_z (r_z + 3) = 100 ∧ gN M_z (r_z + 3) = 3
def ShFr (M_z : Mem) (r_z : Nat)  : Prop := ShFrx M_z r_z
theorem ShFr.u {M_z : Mem} {r_z : Nat}  (h_z : ShFr M_z r_z) : ShFrx M_z r_z := h_z
section KS
variable {G : Env0} {Q : Option AV → Mem → Prop} {M : Mem} {r : Nat}
theorem X_peek {x_z : Int} (h_z : ShFr M r) (h1 : 0 ≤ x_z) (h2 : x_z < gI M r 6) (h3 : gI M r 6 ≤ 16) : Call G J_Fr_peek [a_r r, a_i x_z] M Q ↔ Q (some (a_l (gL M (r + 1) (gI M r 6 - 1 - x_z)))) M := by
  simp (disch := omega) only [E_Fr_peek, B_88_0, B_88_28, B_88_31, h_z.u, inI, inL, isT, kInt, kByt, true_and, and_true, an_t, im_t, im_f, or_true, true_or, true_imp_iff, false_imp_iff, not_true_eq_false, not_false_eq_true, gK_uI, gK_uL, gK_uR, gK_uCI, gK_uCL, gN_uI, gN_uL, gN_uR, gN_uCI, gN_uCL, gR_uI, gR_uL, gR_uCI, gR_uCL, gI_uL, gI_uR, gI_uCL, gL_uI, gL_uR, gL_uCI, gz_uI, gz_uL, gz_uR, gz_uCI, gz_uCL, gs_uI, gs_uL, gs_uR, gs_uCI, gs_uCL, rI_at, rL_at, rR_at, rI_ne, rL_ne, rR_ne, rI_nk, rL_nk, rR_nk, rI_eq, rL_eq, rR_eq, Option.toList_some, Option.toList_none, List.cons_append, List.nil_append, List.append_nil]
theorem X_push {x_z : Int} (h_z : ShFr M r) (h1 : 0 ≤ gI M r 6) (h3 : gI M r 6 < 16) : Call G J_Fr_push [a_r r, a_l x_z] M Q ↔ Q none (uI (uL M (r + 1) (gI M r 6) x_z) r 6 (gI M r 6 + 1)) := by
  simp (disch := omega) only [E_Fr_push, B_85_0, B_85_36, h_z.u, inI, inL, isT, kInt, kByt, true_and, and_true, an_t, im_t, im_f, or_true, true_or, true_imp_iff, false_imp_iff, not_true_eq_false, not_false_eq_true, gK_uI, gK_uL, gK_uR, gK_uCI, gK_uCL, gN_uI, gN_uL, gN_uR, gN_uCI, gN_uCL, gR_uI, gR_uL, gR_uCI, gR_uCL, gI_uL, gI_uR, gI_uCL, gL_uI, gL_uR, gL_uCI, gz_uI, gz_uL, gz_uR, gz_uCI, gz_uCL, gs_uI, gs_uL, gs_uR, gs_uCI, gs_uCL, rI_at, rL_at, rR_at, rI_ne, rL_ne, rR_ne, rI_nk, rL_nk, rR_nk, rI_eq, rL_eq, rR_eq, Option.toList_some, Option.toList_none, List.cons_append, List.nil_append, List.append_nil]
theorem X_remove {x_z : Int} (h_z : ShFr M r) (h1 : 0 ≤ x_z) (h2 : x_z ≤ gI M r 6) (h3 : gI M r 6 ≤ 16) : Call G J_Fr_remove [a_r r, a_i x_z] M Q ↔ Q none (uI M r 6 (gI M r 6 - x_z)) := by
  by_cases c_z : gI M r 6 ≤ x_z
  · have e_z : gI M r 6 - x_z = 0 := by omega
    simp (disch := omega) only [E_Fr_remove, B_96_0, B_96_18, B_96_19, h_z.u, inI, inL, isT, kInt, kByt, true_and, and_true, an_t, im_t, im_f, or_true, true_or, true_imp_iff, false_imp_iff, not_true_eq_false, not_false_eq_true, gK_uI, gK_uL, gK_uR, gK_uCI, gK_uCL, gN_uI, gN_uL, gN_uR, gN_uCI, gN_uCL, gR_uI, gR_uL, gR_uCI, gR_uCL, gI_uL, gI_uR, gI_uCL, gL_uI, gL_uR, gL_uCI, gz_uI, gz_uL, gz_uR, gz_uCI, gz_uCL, gs_uI, gs_uL, gs_uR, gs_uCI, gs_uCL, rI_at, rL_at, rR_at, rI_ne, rL_ne, rR_ne, rI_nk, rL_nk, rR_nk, rI_eq, rL_eq, rR_eq, Option.toList_some, Option.toList_none, List.cons_append, List.nil_append, List.append_nil, e_z]
  · simp (disch := omega) only [E_Fr_remove, B_96_0, B_96_18, B_96_19, h_z.u, inI, inL, isT, kInt, kByt, true_and, and_true, an_t, im_t, im_f, or_true, true_or, true_imp_iff, false_imp_iff, not_true_eq_false, not_false_eq_true, gK_uI, gK_uL, gK_uR, gK_uCI, gK_uCL, gN_uI, gN_uL, gN_uR, gN_uCI, gN_uCL, gR_uI, gR_uL, gR_uCI, gR_uCL, gI_uL, gI_uR, gI_uCL, gL_uI, gL_uR, gL_uCI, gz_uI, gz_uL, gz_uR, gz_uCI, gz_uCL, gs_uI, gs_uL, gs_uR, gs_uCI, gs_uCL, rI_at, rL_at, rR_at, rI_ne, rL_ne, rR_ne, rI_nk, rL_nk, rR_nk, rI_eq, rL_eq, rR_eq, Option.toList_some, Option.toList_none, List.cons_append, List.nil_append, List.append_nil]
end KS
