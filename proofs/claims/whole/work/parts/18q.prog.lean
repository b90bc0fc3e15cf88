/-! THE PURE PART, part 18: a new program. Own work. -/
section EQ0
variable {M : Mem} {r c ns : Nat} {n : Int}
theorem nK_ne (h_z : r ≠ gz M + 1) : gK (uN M c n ns) r = gK M r := by rw [gK_uN]; exact if_neg h_z
theorem nN_ne (h_z : r ≠ gz M + 1) : gN (uN M c n ns) r = gN M r := by rw [gN_uN]; exact if_neg h_z
theorem nI_ne (h_z : r ≠ gz M + 1) : gI (uN M c n ns) r = gI M r := by funext k; rw [gI_uN]; exact if_neg h_z
theorem nL_ne (h_z : r ≠ gz M + 1) : gL (uN M c n ns) r = gL M r := by funext k; rw [gL_uN]; exact if_neg h_z
theorem nR_ne (h_z : r ≠ gz M + 1) : gR (uN M c n ns) r = gR M r := by funext k; rw [gR_uN]; exact if_neg h_z
theorem nK_at (h_z : r = gz M + 1) : gK (uN M c n ns) r = c := by rw [gK_uN]; exact if_pos h_z
theorem nN_at (h_z : r = gz M + 1) : gN (uN M c n ns) r = n := by rw [gN_uN]; exact if_pos h_z
theorem nI_at {k_z : Int} (h_z : r = gz M + 1) : gI (uN M c n ns) r k_z = 0 := by rw [gI_uN]; exact if_pos h_z
theorem nL_at {k_z : Int} (h_z : r = gz M + 1) : gL (uN M c n ns) r k_z = 0 := by rw [gL_uN]; exact if_pos h_z
theorem nR_at {k_z : Int} (h_z : r = gz M + 1) : gR (uN M c n ns) r k_z = 0 := by rw [gR_uN]; exact if_pos h_z
end EQ0
/-- the cells up to z_z are as they were -/
def OldC (z_z : Nat) (M M' : Mem) : Prop := ∀ r : Nat, r ≤ z_z → gK M' r = gK M r ∧ gN M' r = gN M r ∧ gI M' r = gI M r ∧ gL M' r = gL M r ∧ gR M' r = gR M r
theorem OldC.refl (z_z : Nat) (M : Mem) : OldC z_z M M := fun _ _ => ⟨rfl, rfl, rfl, rfl, rfl⟩
theorem OldC.trans {z_z : Nat} {M M' M'' : Mem} (h_z : OldC z_z M M') (h2 : OldC z_z M' M'') : OldC z_z M M'' := fun r hr => by
  obtain ⟨a1_z, a2, a3, a4, a5⟩ := h_z r hr
  obtain ⟨b1, b2, b3, b4, b5⟩ := h2 r hr
  exact ⟨b1.trans a1_z, b2.trans a2, b3.trans a3, b4.trans a4, b5.trans a5⟩
theorem OldC.wN {z_z c ns : Nat} {n : Int} {M M' : Mem} (h_z : OldC z_z M M') (hz : z_z ≤ gz M') : OldC z_z M (uN M' c n ns) := fun r hr => by
  obtain ⟨a1_z, a2, a3, a4, a5⟩ := h_z r hr
  have q_z : r ≠ gz M' + 1 := by omega
  exact ⟨(nK_ne q_z).trans a1_z, (nN_ne q_z).trans a2, (nI_ne q_z).trans a3, (nL_ne q_z).trans a4, (nR_ne q_z).trans a5⟩
theorem OldC.wI {z_z p_z : Nat} {M M' : Mem} (h_z : OldC z_z M M') (k_z v_z : Int) (hp : z_z < p_z) : OldC z_z M (uI M' p_z k_z v_z) := fun r hr => by
  obtain ⟨a1_z, a2, a3, a4, a5⟩ := h_z r hr
  exact ⟨a1_z, a2, (rI_ne (by omega)).trans a3, a4, a5⟩
theorem OldC.wR {z_z p_z v_z : Nat} {M M' : Mem} (h_z : OldC z_z M M') (k_z : Int) (hp : z_z < p_z) : OldC z_z M (uR M' p_z k_z v_z) := fun r hr => by
  obtain ⟨a1_z, a2, a3, a4, a5⟩ := h_z r hr
  exact ⟨a1_z, a2, a3, a4, (rR_ne (by omega)).trans a5⟩
theorem OldC.wCI {z_z p_z b : Nat} {i_z j_z n : Int} {M M' : Mem} (h_z : OldC z_z M M') (hp : z_z < p_z) : OldC z_z M (uCI M' p_z i_z b j_z n) := fun r hr => by
  obtain ⟨a1_z, a2, a3, a4, a5⟩ := h_z r hr
  exact ⟨a1_z, a2, (rCI_ne (by omega)).trans a3, a4, a5⟩
theorem OldC.wCL {z_z p_z b : Nat} {i_z j_z n : Int} {M M' : Mem} (h_z : OldC z_z M M') (hp : z_z < p_z) : OldC z_z M (uCL M' p_z i_z b j_z n) := fun r hr => by
  obtain ⟨a1_z, a2, a3, a4, a5⟩ := h_z r hr
  exact ⟨a1_z, a2, a3, (rCL_ne (by omega)).trans a4, a5⟩
section EQ
variable {G : Env0} {Q : Option AV → Mem → Prop} {M : Mem} {b : Nat}
theorem X_min {x_z y_z : Int} (h_z : x_z ≤ y_z) : Call G J_Mt_min [a_i x_z, a_i y_z] M Q ↔ Q (some (a_i x_z)) M := by
  simp (disch := omega) only [E_Mt_min, B_53_0, B_53_9, B_53_10, inI, inL, isT, kInt, kByt, true_and, and_true, an_t, im_t, im_f, or_true, true_or, true_imp_iff, false_imp_iff, not_true_eq_false, not_false_eq_true, gK_uI, gK_uL, gK_uR, gK_uCI, gK_uCL, gN_uI, gN_uL, gN_uR, gN_uCI, gN_uCL, gR_uI, gR_uL, gR_uCI, gR_uCL, gI_uL, gI_uR, gI_uCL, gL_uI, gL_uR, gL_uCI, gz_uI, gz_uL, gz_uR, gz_uCI, gz_uCL, gs_uI, gs_uL, gs_uR, gs_uCI, gs_uCL, rI_at, rL_at, rR_at, rI_ne, rL_ne, rR_ne, rI_nk, rL_nk, rR_nk, rI_eq, rL_eq, rR_eq, Option.toList_some, Option.toList_none, List.cons_append, List.nil_append, List.append_nil, zc_eq, zc_lt, zc_le, zc_ge, zc_gt]
theorem X_minR {x_z y_z : Int} (h_z : y_z ≤ x_z) : Call G J_Mt_min [a_i x_z, a_i y_z] M Q ↔ Q (some (a_i y_z)) M := by
  by_cases c : x_z = y_z
  · subst c
    exact X_min (Int.le_refl _)
  · simp (disch := omega) only [E_Mt_min, B_53_0, B_53_9, B_53_10, inI, inL, isT, kInt, kByt, true_and, and_true, an_t, im_t, im_f, or_true, true_or, true_imp_iff, false_imp_iff, not_true_eq_false, not_false_eq_true, gK_uI, gK_uL, gK_uR, gK_uCI, gK_uCL, gN_uI, gN_uL, gN_uR, gN_uCI, gN_uCL, gR_uI, gR_uL, gR_uCI, gR_uCL, gI_uL, gI_uR, gI_uCL, gL_uI, gL_uR, gL_uCI, gz_uI, gz_uL, gz_uR, gz_uCI, gz_uCL, gs_uI, gs_uL, gs_uR, gs_uCI, gs_uCL, rI_at, rL_at, rR_at, rI_ne, rL_ne, rR_ne, rI_nk, rL_nk, rR_nk, rI_eq, rL_eq, rR_eq, Option.toList_some, Option.toList_none, List.cons_append, List.nil_append, List.append_nil, zc_eq, zc_lt, zc_le, zc_ge, zc_gt]
theorem X_max {x_z y_z : Int} (h_z : x_z ≤ y_z) : Call G J_Mt_max [a_i x_z, a_i y_z] M Q ↔ Q (some (a_i y_z)) M := by
  by_cases c : x_z = y_z
  · subst c
    simp (disch := omega) only [E_Mt_max, B_54_0, B_54_9, B_54_10, inI, inL, isT, kInt, kByt, true_and, and_true, an_t, im_t, im_f, or_true, true_or, true_imp_iff, false_imp_iff, not_true_eq_false, not_false_eq_true, gK_uI, gK_uL, gK_uR, gK_uCI, gK_uCL, gN_uI, gN_uL, gN_uR, gN_uCI, gN_uCL, gR_uI, gR_uL, gR_uCI, gR_uCL, gI_uL, gI_uR, gI_uCL, gL_uI, gL_uR, gL_uCI, gz_uI, gz_uL, gz_uR, gz_uCI, gz_uCL, gs_uI, gs_uL, gs_uR, gs_uCI, gs_uCL, rI_at, rL_at, rR_at, rI_ne, rL_ne, rR_ne, rI_nk, rL_nk, rR_nk, rI_eq, rL_eq, rR_eq, Option.toList_some, Option.toList_none, List.cons_append, List.nil_append, List.append_nil, zc_eq, zc_lt, zc_le, zc_ge, zc_gt]
  · simp (disch := omega) only [E_Mt_max, B_54_0, B_54_9, B_54_10, inI, inL, isT, kInt, kByt, true_and, and_true, an_t, im_t, im_f, or_true, true_or, true_imp_iff, false_imp_iff, not_true_eq_false, not_false_eq_true, gK_uI, gK_uL, gK_uR, gK_uCI, gK_uCL, gN_uI, gN_uL, gN_uR, gN_uCI, gN_uCL, gR_uI, gR_uL, gR_uCI, gR_uCL, gI_uL, gI_uR, gI_uCL, gL_uI, gL_uR, gL_uCI, gz_uI, gz_uL, gz_uR, gz_uCI, gz_uCL, gs_uI, gs_uL, gs_uR, gs_uCI, gs_uCL, rI_at, rL_at, rR_at, rI_ne, rL_ne, rR_ne, rI_nk, rL_nk, rR_nk, rI_eq, rL_eq, rR_eq, Option.toList_some, Option.toList_none, List.cons_append, List.nil_append, List.append_nil, zc_eq, zc_lt, zc_le, zc_ge, zc_gt]
theorem X_copyL {a_z : Nat} {n : Int} (ka : gK M a_z = 101) (na : gN M a_z = 160) (n0_z : 0 ≤ n) (n1_z : n < 160) (az : a_z ≤ gz M) (rm : roomOk G M n.toNat) (hQ : Q (some (a_r (gz M + 1))) (uCL (uN M 101 n n.toNat) (gz M + 1) 0 a_z 0 n)) : Call G J_Ar_copyOf [a_r a_z, a_i n] M Q := by
  have q_z : a_z ≠ gz M + 1 := by omega
  have e1_z : gK (uN M 101 n n.toNat) a_z = 101 := (nK_ne q_z).trans ka
  have e2_z : gN (uN M 101 n n.toNat) a_z = 160 := (nN_ne q_z).trans na
  have e3_z : gK (uN M 101 n n.toNat) (gz M + 1) = 101 := nK_at rfl
  have e4_z : gN (uN M 101 n n.toNat) (gz M + 1) = n := nN_at rfl
  rw [E_Ar_copyOf, B_55_0, ka, na]
  refine ⟨by decide, fun _ => ?_, fun w_z => absurd (by omega) w_z⟩
  rw [B_55_14, e1_z, e2_z]
  refine ⟨⟨n0_z, by omega⟩, rm, by decide, ?_⟩
  rw [X_minR (by omega)]
  simp only [Option.toList_some, Option.toList_none, List.cons_append, List.nil_append, List.append_nil]
  rw [B_55_28, e1_z, e2_z, e3_z, e4_z]
  refine ⟨q_z, by decide, by decide, n0_z, by omega, by omega, Or.inr ⟨rfl, rfl, ?_⟩⟩
  rw [B_55_31]
  exact hQ
theorem X_copyI {a_z : Nat} {n : Int} (ka : gK M a_z = 100) (na : gN M a_z = 160) (n0_z : 0 ≤ n) (n1_z : n < 160) (az : a_z ≤ gz M) (rm : roomOk G M n.toNat) (hQ : Q (some (a_r (gz M + 1))) (uCI (uN M 100 n n.toNat) (gz M + 1) 0 a_z 0 n)) : Call G J_Ar_copyOf2 [a_r a_z, a_i n] M Q := by
  have q_z : a_z ≠ gz M + 1 := by omega
  have e1_z : gK (uN M 100 n n.toNat) a_z = 100 := (nK_ne q_z).trans ka
  have e2_z : gN (uN M 100 n n.toNat) a_z = 160 := (nN_ne q_z).trans na
  have e3_z : gK (uN M 100 n n.toNat) (gz M + 1) = 100 := nK_at rfl
  have e4_z : gN (uN M 100 n n.toNat) (gz M + 1) = n := nN_at rfl
  rw [E_Ar_copyOf2, B_56_0, ka, na]
  refine ⟨by decide, fun _ => ?_, fun w_z => absurd (by omega) w_z⟩
  rw [B_56_14, e1_z, e2_z]
  refine ⟨⟨n0_z, by omega⟩, rm, by decide, ?_⟩
  rw [X_minR (by omega)]
  simp only [Option.toList_some, Option.toList_none, List.cons_append, List.nil_append, List.append_nil]
  rw [B_56_28, e1_z, e2_z, e3_z, e4_z]
  refine ⟨q_z, by decide, by decide, n0_z, by omega, by omega, Or.inl ⟨rfl, rfl, ?_⟩⟩
  rw [B_56_31]
  exact hQ
/-- the same but for the row r of references -/
def RowR (r : Nat) (P_z P'_z : Mem) : Prop := gK P'_z = gK P_z ∧ gN P'_z = gN P_z ∧ gI P'_z = gI P_z ∧ gL P'_z = gL P_z ∧ gz P'_z = gz P_z ∧ gs P'_z = gs P_z ∧ ∀ a_z : Nat, a_z ≠ r → gR P'_z a_z = gR P_z a_z
theorem pg_loop {P_z : Mem} {p_z a_z l q_z n : Nat} (k1_z : gK P_z p_z = 10) (k2_z : gR P_z p_z 0 = p_z + 1) (k3_z : gI P_z p_z 3 = (n : Int)) (k4_z : gK P_z (p_z + 1) = 150) (k5_z : gN P_z (p_z + 1) = (n : Int)) (k6_z : gK P_z a_z = 150) (k7_z : gN P_z a_z = 160) (ne : a_z ≠ p_z + 1) (n1_z : n ≤ 107) (he : ∀ i_z : Int, 0 ≤ i_z → i_z < (n : Int) → gR P_z a_z i_z = 0 ∨ gK P_z (gR P_z a_z i_z) = 41) (hE : ∀ P'_z, RowR (p_z + 1) P_z P'_z → (∀ i_z : Int, 0 ≤ i_z → i_z < (n : Int) → gR P'_z (p_z + 1) i_z = gR P_z a_z i_z) → At G 52 59 [a_r p_z, a_r a_z, a_r l, a_r q_z, a_i (n : Int), a_i (n : Int)] [] P'_z Q) : ∀ (d_z i_z : Nat), i_z + d_z = n → ∀ P'_z, RowR (p_z + 1) P_z P'_z → (∀ k_z : Int, 0 ≤ k_z → k_z < (i_z : Int) → gR P'_z (p_z + 1) k_z = gR P_z a_z k_z) → At G 52 33 [a_r p_z, a_r a_z, a_r l, a_r q_z, a_i (n : Int), a_i (i_z : Int)] [] P'_z Q := by
  intro d_z
  induction d_z with
  | zero =>
    intro i_z hi_z P'_z hr hk
    have e_z : i_z = n := by omega
    subst e_z
    have go_z := hE P'_z hr hk
    obtain ⟨r1_z, r2, r3, r4, r5_z, r6, r7⟩ := hr
    rw [B_52_33, r1_z, r3, k3_z]
    exact ⟨k1_z, fun _ => go_z, fun w_z => absurd (Int.le_refl _) w_z⟩
  | succ d_z ih_z =>
    intro i_z hi_z P'_z hr hk
    obtain ⟨r1_z, r2, r3, r4, r5_z, r6, r7⟩ := id hr
    have go_z := ih_z (i_z + 1) (by omega) (uR P'_z (p_z + 1) (i_z : Int) (gR P'_z a_z (i_z : Int))) ⟨r1_z, r2, r3, r4, r5_z, r6, fun x_z hx => (rR_ne hx).trans (r7 x_z hx)⟩ (fun k_z k0_z kk => by
      by_cases c : k_z = (i_z : Int)
      · rw [c, rR_at, r7 a_z ne]
      · rw [rR_nk c]
        exact hk k_z k0_z (by omega))
    rw [show ((i_z + 1 : Nat) : Int) = (i_z : Int) + 1 from by omega] at go_z
    have hei := he (i_z : Int) (by omega) (by omega)
    rw [← r7 a_z ne, ← r1_z] at hei
    rw [B_52_33, r7 p_z (by omega), k2_z, r3, k3_z]
    refine ⟨by rw [r1_z]; exact k1_z, fun w_z => absurd w_z (by omega), fun _ => ⟨by rw [r1_z]; exact k1_z, by rw [r1_z, k6_z]; decide, by omega, by rw [r2, k7_z]; omega, by rw [r1_z, k4_z]; decide, by omega, by rw [r2, k5_z]; omega, ?_, ⟨by omega, by omega⟩, go_z⟩⟩
    rcases hei with w_z | w_z
    · exact Or.inl w_z
    · refine Or.inr ?_
      rw [w_z, r1_z, k4_z]
/-- a program, made of the reader's rows -/
theorem X_makeP {n : Nat} (sh_z : ShRd M b) (h6 : gI M (b + 2) 6 = (n : Int)) (n1_z : n ≤ 107) (hz : b + 10 ≤ gz M) (he : ∀ i_z : Int, 0 ≤ i_z → i_z < (n : Int) → gR M (b + 4) i_z ≤ gz M ∧ (gR M (b + 4) i_z = 0 ∨ gK M (gR M (b + 4) i_z) = 41)) (rm1 : gz M + 4 ≤ G.1 + 600000) (rm2 : gs M + 4 + 3 * n ≤ 7302249) (hQ : ∀ M', OldC (gz M) M M' → gz M' = gz M + 4 → gs M' = gs M + 4 + 3 * n → ShPg M' (gz M + 1) → gI M' (gz M + 1) 3 = (n : Int) → (∀ i_z : Int, 0 ≤ i_z → i_z < (n : Int) → gR M' (gz M + 1 + 1) i_z = gR M (b + 4) i_z ∧ gL M' (gz M + 1 + 2) i_z = gL M (b + 5) i_z ∧ gI M' (gz M + 1 + 3) i_z = gI M (b + 6) i_z) → Q (some (a_r (gz M + 1))) M') : Call G J_Rd_makeProgram [a_r (b + 2)] M Q := by
  have su := sh_z.u
  obtain ⟨u1_z, u2_z, u3, u4_z, u5, u6, u7, u8, u9, u10, u11, u12, u13, u14, u15⟩ := su
  -- the first two cells
  have f1_z : OldC (gz M) M (uN M 10 0 4) := (OldC.refl _ _).wN (Nat.le_refl _)
  have z1 : gz (uN M 10 0 4) = gz M + 1 := rfl
  have p1_z : gK (uN M 10 0 4) (gz M + 1) = 10 := nK_at rfl
  have f2_z : OldC (gz M) M (uI (uN M 10 0 4) (gz M + 1) 3 (n : Int)) := f1_z.wI _ _ (by omega)
  have f3_z : OldC (gz M) M (uN (uI (uN M 10 0 4) (gz M + 1) 3 (n : Int)) 150 (n : Int) n) := f2_z.wN (by show gz M ≤ gz M + 1; omega)
  have f4_z : OldC (gz M) M (uR (uN (uI (uN M 10 0 4) (gz M + 1) 3 (n : Int)) 150 (n : Int) n) (gz M + 1) 0 (gz M + 1 + 1)) := f3_z.wR _ (by omega)
  have main_z : ∀ P_z, OldC (gz M) M P_z → gz P_z = gz M + 2 → gs P_z = gs M + 4 + n → gK P_z (gz M + 1) = 10 → gR P_z (gz M + 1) 0 = gz M + 1 + 1 → gI P_z (gz M + 1) 3 = (n : Int) → gK P_z (gz M + 1 + 1) = 150 → gN P_z (gz M + 1 + 1) = (n : Int) → At G 52 33 [a_r (gz M + 1), a_r (b + 4), a_r (b + 5), a_r (b + 6), a_i (n : Int), a_i 0] [] P_z (fun r M2_z => At G 51 23 [a_r (b + 2)] (r.toList ++ [a_r (gz M + 1)]) M2_z Q) := by
    intro P_z fP zP sP k1_z k2_z k3_z k4_z k5_z
    obtain ⟨g41, g42, -, -, g45⟩ := fP (b + 4) (by omega)
    obtain ⟨g51, g52, -, g54, -⟩ := fP (b + 5) (by omega)
    obtain ⟨g61, g62, g63, -, -⟩ := fP (b + 6) (by omega)
    refine pg_loop (p_z := gz M + 1) (a_z := b + 4) (l := b + 5) (q_z := b + 6) (n := n) k1_z k2_z k3_z k4_z k5_z (g41.trans u9) (g42.trans u10) (by omega) n1_z (fun i_z i0_z i1_z => ?_) (fun P'_z hr hk => ?_) n 0 (by omega) P_z ⟨rfl, rfl, rfl, rfl, rfl, rfl, fun _ _ => rfl⟩ (fun k_z k0_z kk => absurd kk (by omega))
    · obtain ⟨w1_z, w2_z⟩ := he i_z i0_z i1_z
      rw [g45]
      rcases w2_z with w2_z | w2_z
      · exact Or.inl w2_z
      · right
        rw [(fP _ w1_z).1]
        exact w2_z
    · obtain ⟨r1_z, r2, r3, r4, r5_z, r6, r7⟩ := hr
      have zP' : gz P'_z = gz M + 2 := r5_z.trans zP
      have fP' : OldC (gz M) M P'_z := fun x_z hx => by
        obtain ⟨a1_z, a2, a3, a4, a5⟩ := fP x_z hx
        exact ⟨by rw [r1_z]; exact a1_z, by rw [r2]; exact a2, by rw [r3]; exact a3, by rw [r4]; exact a4, by rw [r7 x_z (by omega)]; exact a5⟩
      -- the literals
      have f5_z : OldC (gz M) M (uN P'_z 101 (n : Int) n) := fP'.wN (by omega)
      have f6_z : OldC (gz M) M (uCL (uN P'_z 101 (n : Int) n) (gz P'_z + 1) 0 (b + 5) 0 (n : Int)) := f5_z.wCL (by omega)
      generalize hP6 : uCL (uN P'_z 101 (n : Int) n) (gz P'_z + 1) 0 (b + 5) 0 (n : Int) = P6 at f6_z
      have z6 : gz P6 = gz M + 3 := by
        rw [← hP6]
        show gz P'_z + 1 = _
        omega
      have s6_z : gs P6 = gs M + 4 + 2 * n := by
        rw [← hP6]
        show gs P'_z + n = _
        omega
      have e6K : ∀ x_z, x_z ≠ gz M + 3 → gK P6 x_z = gK P'_z x_z := fun x_z hx => by
        rw [← hP6]
        show gK (uN P'_z 101 (n : Int) n) x_z = _
        exact nK_ne (by omega)
      have e6N : ∀ x_z, x_z ≠ gz M + 3 → gN P6 x_z = gN P'_z x_z := fun x_z hx => by
        rw [← hP6]
        show gN (uN P'_z 101 (n : Int) n) x_z = _
        exact nN_ne (by omega)
      have e6I : ∀ x_z, x_z ≠ gz M + 3 → gI P6 x_z = gI P'_z x_z := fun x_z hx => by
        rw [← hP6]
        show gI (uN P'_z 101 (n : Int) n) x_z = _
        exact nI_ne (by omega)
      have e6R : ∀ x_z, x_z ≠ gz M + 3 → gR P6 x_z = gR P'_z x_z := fun x_z hx => by
        rw [← hP6]
        show gR (uN P'_z 101 (n : Int) n) x_z = _
        exact nR_ne (by omega)
      have k6_z : gK P6 (gz M + 3) = 101 := by
        rw [← hP6]
        show gK (uN P'_z 101 (n : Int) n) _ = _
        exact nK_at (by omega)
      have n6_z : gN P6 (gz M + 3) = (n : Int) := by
        rw [← hP6]
        show gN (uN P'_z 101 (n : Int) n) _ = _
        exact nN_at (by omega)
      have l6 : ∀ i_z : Int, 0 ≤ i_z → i_z < (n : Int) → gL P6 (gz M + 3) i_z = gL M (b + 5) i_z := fun i_z i0_z i1_z => by
        rw [← hP6, rCL_in ⟨by omega, by omega, by omega⟩, nL_ne (by omega), show 0 + (i_z - 0) = i_z from by omega, (fP' (b + 5) (by omega)).2.2.2.1]
      -- the program holds them
      have f7_z : OldC (gz M) M (uR P6 (gz M + 1) 1 (gz M + 3)) := f6_z.wR _ (by omega)
      have h7 : ∀ x_z, x_z ≠ gz M + 1 → gR (uR P6 (gz M + 1) 1 (gz M + 3)) x_z = gR P6 x_z := fun x_z hx => rR_ne hx
      -- the partners
      have z7 : gz (uR P6 (gz M + 1) 1 (gz M + 3)) = gz M + 3 := z6
      have f8_z : OldC (gz M) M (uN (uR P6 (gz M + 1) 1 (gz M + 3)) 100 (n : Int) n) := f7_z.wN (by omega)
      have f9_z : OldC (gz M) M (uCI (uN (uR P6 (gz M + 1) 1 (gz M + 3)) 100 (n : Int) n) (gz (uR P6 (gz M + 1) 1 (gz M + 3)) + 1) 0 (b + 6) 0 (n : Int)) := f8_z.wCI (by omega)
      generalize hP9 : uCI (uN (uR P6 (gz M + 1) 1 (gz M + 3)) 100 (n : Int) n) (gz (uR P6 (gz M + 1) 1 (gz M + 3)) + 1) 0 (b + 6) 0 (n : Int) = P9 at f9_z
      have z9 : gz P9 = gz M + 4 := by
        rw [← hP9]
        show gz P6 + 1 = _
        omega
      have s9 : gs P9 = gs M + 4 + 3 * n := by
        rw [← hP9]
        show gs P6 + n = _
        omega
      have e9K : ∀ x_z, x_z ≠ gz M + 4 → gK P9 x_z = gK P6 x_z := fun x_z hx => by
        rw [← hP9]
        show gK (uN (uR P6 (gz M + 1) 1 (gz M + 3)) 100 (n : Int) n) x_z = _
        exact nK_ne (by omega)
      have e9N : ∀ x_z, x_z ≠ gz M + 4 → gN P9 x_z = gN P6 x_z := fun x_z hx => by
        rw [← hP9]
        show gN (uN (uR P6 (gz M + 1) 1 (gz M + 3)) 100 (n : Int) n) x_z = _
        exact nN_ne (by omega)
      have e9L : ∀ x_z, x_z ≠ gz M + 4 → gL P9 x_z = gL P6 x_z := fun x_z hx => by
        rw [← hP9]
        show gL (uN (uR P6 (gz M + 1) 1 (gz M + 3)) 100 (n : Int) n) x_z = _
        exact nL_ne (by omega)
      have e9I : ∀ x_z, x_z ≠ gz M + 4 → gI P9 x_z = gI P6 x_z := fun x_z hx => by
        rw [← hP9, rCI_ne (by omega), nI_ne (by omega)]
        rfl
      have e9R : ∀ x_z, x_z ≠ gz M + 4 → gR P9 x_z = gR (uR P6 (gz M + 1) 1 (gz M + 3)) x_z := fun x_z hx => by
        rw [← hP9]
        show gR (uN (uR P6 (gz M + 1) 1 (gz M + 3)) 100 (n : Int) n) x_z = _
        exact nR_ne (by omega)
      have k9 : gK P9 (gz M + 4) = 100 := by
        rw [← hP9]
        show gK (uN (uR P6 (gz M + 1) 1 (gz M + 3)) 100 (n : Int) n) _ = _
        exact nK_at (by omega)
      have n9 : gN P9 (gz M + 4) = (n : Int) := by
        rw [← hP9]
        show gN (uN (uR P6 (gz M + 1) 1 (gz M + 3)) 100 (n : Int) n) _ = _
        exact nN_at (by omega)
      have i9_z : ∀ i_z : Int, 0 ≤ i_z → i_z < (n : Int) → gI P9 (gz M + 4) i_z = gI M (b + 6) i_z := fun i_z i0_z i1_z => by
        rw [← hP9, rCI_in ⟨by omega, by omega, by omega⟩, nI_ne (by omega), show 0 + (i_z - 0) = i_z from by omega, (f7_z (b + 6) (by omega)).2.2.1]
      -- what is asked
      have kp_z : gK P9 (gz M + 1) = 10 := by rw [e9K _ (by omega), e6K _ (by omega), r1_z]; exact k1_z
      have ip : gI P9 (gz M + 1) 3 = (n : Int) := by rw [e9I _ (by omega), e6I _ (by omega), r3]; exact k3_z
      have rp0 : gR P9 (gz M + 1) 0 = gz M + 1 + 1 := by rw [e9R _ (by omega), rR_nk (by decide), e6R _ (by omega), r7 _ (by omega)]; exact k2_z
      have rp1 : gR P9 (gz M + 1) 1 = gz M + 3 := by rw [e9R _ (by omega), rR_at]
      have fin_z := hQ (uR P9 (gz M + 1) 2 (gz M + 4)) (f9_z.wR _ (by omega)) z9 s9 ⟨kp_z, by rw [rR_nk (by decide)]; exact rp0, by rw [rR_nk (by decide)]; exact rp1, rR_at, by
          show gK P9 (gz M + 1 + 1) = 150
          rw [e9K _ (by omega), e6K _ (by omega), r1_z]
          exact k4_z, by
          show gN P9 (gz M + 1 + 1) = gI P9 (gz M + 1) 3
          rw [ip, e9N _ (by omega), e6N _ (by omega), r2]
          exact k5_z, by
          show gK P9 (gz M + 3) = 101
          rw [e9K _ (by omega)]
          exact k6_z, by
          show gN P9 (gz M + 3) = gI P9 (gz M + 1) 3
          rw [ip, e9N _ (by omega)]
          exact n6_z, k9, by
          show gN P9 (gz M + 4) = gI P9 (gz M + 1) 3
          rw [ip]
          exact n9⟩ ip (fun i_z i0_z i1_z => ⟨by
          rw [rR_ne (by omega), e9R _ (by omega), rR_ne (by omega), e6R _ (by omega), hk i_z i0_z i1_z, g45], by
          show gL P9 (gz M + 3) i_z = _
          rw [e9L _ (by omega)]
          exact l6 i_z i0_z i1_z, i9_z i_z i0_z i1_z⟩)
      have g3_z : Call G J_Ar_copyOf2 [a_r (b + 6), a_i (n : Int)] (uR P6 (gz M + 1) 1 (gz M + 3)) (fun r M2_z => At G 52 80 [a_r (gz M + 1), a_r (b + 4), a_r (b + 5), a_r (b + 6), a_i (n : Int), a_i (n : Int)] (r.toList ++ [a_r (gz M + 1)]) M2_z (fun r M2_z => At G 51 23 [a_r (b + 2)] (r.toList ++ [a_r (gz M + 1)]) M2_z Q)) := by
        obtain ⟨y1, y2, -, -, -⟩ := f7_z (b + 6) (by omega)
        refine X_copyI (y1.trans u13) (y2.trans u14) (by omega) (by omega) (by omega) ⟨by omega, ?_⟩ ?_
        · show gs P6 + _ ≤ _
          omega
        · rw [show ((n : Int)).toNat = n from by omega, hP9]
          simp only [Option.toList_some, Option.toList_none, List.cons_append, List.nil_append, List.append_nil]
          rw [B_52_80]
          refine ⟨kp_z, ?_⟩
          simp only [Option.toList_some, Option.toList_none, List.cons_append, List.nil_append, List.append_nil]
          rw [B_51_23, z7]
          exact fin_z
      have g2 : Call G J_Ar_copyOf [a_r (b + 5), a_i (n : Int)] P'_z (fun r M2_z => At G 52 68 [a_r (gz M + 1), a_r (b + 4), a_r (b + 5), a_r (b + 6), a_i (n : Int), a_i (n : Int)] (r.toList ++ [a_r (gz M + 1)]) M2_z (fun r M2_z => At G 51 23 [a_r (b + 2)] (r.toList ++ [a_r (gz M + 1)]) M2_z Q)) := by
        obtain ⟨y1, y2, -, -, -⟩ := fP' (b + 5) (by omega)
        refine X_copyL (y1.trans u11) (y2.trans u12) (by omega) (by omega) (by omega) ⟨by omega, by omega⟩ ?_
        rw [show ((n : Int)).toNat = n from by omega, hP6]
        simp only [Option.toList_some, Option.toList_none, List.cons_append, List.nil_append, List.append_nil]
        have kp6 : gK P6 (gz M + 1) = 10 := by rw [e6K _ (by omega), r1_z]; exact k1_z
        have ip6 : gI P6 (gz M + 1) 3 = (n : Int) := by rw [e6I _ (by omega), r3]; exact k3_z
        rw [B_52_68]
        have ez : gz P'_z + 1 = gz M + 3 := by omega
        rw [ez]
        refine ⟨kp6, kp6, ?_⟩
        show Call G J_Ar_copyOf2 [a_r (b + 6), a_i (gI P6 (gz M + 1) 3)] _ _
        rw [ip6]
        exact g3_z
      have kp' : gK P'_z (gz M + 1) = 10 := by rw [r1_z]; exact k1_z
      have ip' : gI P'_z (gz M + 1) 3 = (n : Int) := by rw [r3]; exact k3_z
      rw [B_52_59, ip']
      exact ⟨kp', g2⟩
  have at52 : Call G J_Pg_init [a_r (gz M + 1), a_r (b + 4), a_r (b + 5), a_r (b + 6), a_i (n : Int)] (uN M 10 0 4) (fun r M2_z => At G 51 23 [a_r (b + 2)] (r.toList ++ [a_r (gz M + 1)]) M2_z Q) := by
    obtain ⟨y1, y2, -, -, -⟩ := f1_z (b + 4) (by omega)
    rw [E_Pg_init, B_52_0, y1, y2, u9, u10]
    refine ⟨by omega, by decide, ?_⟩
    rw [X_min (by omega)]
    simp only [Option.toList_some, Option.toList_none, List.cons_append, List.nil_append, List.append_nil]
    rw [B_52_13, X_max (by omega)]
    simp only [Option.toList_some, Option.toList_none, List.cons_append, List.nil_append, List.append_nil]
    rw [B_52_16]
    have ip2 : gI (uI (uN M 10 0 4) (gz M + 1) 3 (n : Int)) (gz M + 1) 3 = (n : Int) := rI_at
    rw [ip2, show ((n : Int)).toNat = n from by omega]
    refine ⟨p1_z, p1_z, ⟨by omega, by omega⟩, ⟨by show gz M + 1 + 1 ≤ _; omega, by show gs M + 4 + n ≤ _; omega⟩, ?_⟩
    rw [B_52_27]
    have z2 : gz (uI (uN M 10 0 4) (gz M + 1) 3 (n : Int)) = gz M + 1 := rfl
    refine ⟨by rw [nK_ne (by rw [z2]; omega)]; exact p1_z, ?_⟩
    rw [z2]
    refine main_z _ f4_z rfl rfl ?_ rR_at ?_ ?_ ?_
    · show gK (uN (uI (uN M 10 0 4) (gz M + 1) 3 (n : Int)) 150 (n : Int) n) _ = _
      rw [nK_ne (by rw [z2]; omega)]
      exact p1_z
    · show gI (uN (uI (uN M 10 0 4) (gz M + 1) 3 (n : Int)) 150 (n : Int) n) _ _ = _
      rw [nI_ne (by rw [z2]; omega)]
      exact ip2
    · exact (show gK (uN (uI (uN M 10 0 4) (gz M + 1) 3 (n : Int)) 150 (n : Int) n) (gz M + 1 + 1) = 150 from nK_at rfl)
    · exact (show gN (uN (uI (uN M 10 0 4) (gz M + 1) 3 (n : Int)) 150 (n : Int) n) (gz M + 1 + 1) = (n : Int) from nN_at rfl)
  obtain ⟨y1, -, y3, -, y5⟩ := f1_z (b + 2) (by omega)
  rw [E_Rd_makeProgram, B_51_0, y1, y3, y5, p1_z, u1_z, u3, u4_z, u5, h6]
  exact ⟨⟨by omega, by omega⟩, rfl, rfl, rfl, rfl, rfl, at52⟩
end EQ
