/-! THE PURE PART, part 18: what is allowed, in the model. Own work. -/
theorem ok_0 {s_z : Stk × Bool} {pa mq : Int} : okT 0 s_z pa mq ↔ s_z.2 = false ∧ nsv s_z.1 < 6 := by simp [okT]
theorem ok_14 {s_z : Stk × Bool} {pa mq : Int} : okT 14 s_z pa mq ↔ s_z.2 = false ∧ nrp s_z.1 < 3 := by simp [okT]
theorem ok_1 {s_z : Stk × Bool} {pa mq : Int} : okT 1 s_z pa mq ↔ s_z.2 = false ∧ hdI s_z.1 = 0 := by simp [okT]
theorem ok_15 {s_z : Stk × Bool} {pa mq : Int} : okT 15 s_z pa mq ↔ s_z.2 = false ∧ hdI s_z.1 = 1 := by simp [okT]
theorem ok_36 {c_z : Int} {s_z : Stk × Bool} {pa mq : Int} (h_z : c_z = 3 ∨ c_z = 6) : okT c_z s_z pa mq := by
  rcases h_z with h_z | h_z <;> subst h_z <;> simp [okT]
theorem ok_45 {c_z : Int} {s_z : Stk × Bool} {pa mq : Int} (h_z : c_z = 4 ∨ c_z = 5) : okT c_z s_z pa mq ↔ s_z.2 = true ∧ pa = 1 := by
  rcases h_z with h_z | h_z <;> subst h_z <;> simp [okT]
theorem ok_78 {c_z : Int} {s_z : Stk × Bool} {pa mq : Int} (h_z : c_z = 7 ∨ c_z = 8) : okT c_z s_z pa mq ↔ s_z.2 = true ∧ mq = 0 := by
  rcases h_z with h_z | h_z <;> subst h_z <;> simp [okT]
theorem ok_9 {c_z : Int} {s_z : Stk × Bool} {pa mq : Int} (h_z : c_z = 9 ∨ c_z = 10 ∨ c_z = 11) : okT c_z s_z pa mq ↔ s_z.2 = true := by
  rcases h_z with h_z | h_z | h_z <;> subst h_z <;> simp [okT]
theorem ok_2 {c_z : Int} {s_z : Stk × Bool} {pa mq : Int} (h_z : c_z = 2 ∨ c_z = 12 ∨ c_z = 13) : okT c_z s_z pa mq ↔ s_z.2 = false := by
  rcases h_z with h_z | h_z | h_z <;> subst h_z <;> simp [okT]
theorem ok_nm {c_z : Int} {s_z : Stk × Bool} {pa mq : Int} (h_z : 100 ≤ c_z ∧ c_z ≤ 107) : okT c_z s_z pa mq ↔ s_z.2 = false := by
  unfold okT
  refine ⟨fun q_z => q_z.2.2.2.2.2.2.1 (by omega), fun q_z => ⟨by omega, fun w_z => absurd w_z (by omega), fun w_z => absurd w_z (by omega), fun w_z => absurd w_z (by omega), fun w_z => absurd w_z (by omega), fun w_z => absurd w_z (by omega), fun _ => q_z, fun w_z => absurd w_z (by omega), fun w_z => absurd w_z (by omega)⟩⟩
theorem ok_hi {c_z : Int} {s_z : Stk × Bool} {pa mq : Int} (h_z : (16 ≤ c_z ∧ c_z ≤ 22) ∨ 10000 ≤ c_z) : okT c_z s_z pa mq := by
  unfold okT
  refine ⟨by omega, fun w_z => absurd w_z (by omega), fun w_z => absurd w_z (by omega), fun w_z => absurd w_z (by omega), fun w_z => absurd w_z (by omega), fun w_z => absurd w_z (by omega), fun w_z => absurd w_z (by omega), fun w_z => absurd w_z (by omega), fun w_z => absurd w_z (by omega)⟩
theorem stepF_same {c_z : Int} {n_z : Nat} {s_z : Stk × Bool} (h_z : 16 ≤ c_z ∨ c_z = 2 ∨ c_z = 4 ∨ c_z = 5 ∨ c_z = 7 ∨ c_z = 8 ∨ c_z = 12 ∨ c_z = 13) : stepF c_z n_z s_z = s_z := by
  unfold stepF
  rw [if_neg (by omega), if_neg (by omega), if_neg (by omega), if_neg (by omega), if_neg (by omega)]
theorem stepF_path {c_z : Int} {n_z : Nat} {s_z : Stk × Bool} (h_z : c_z = 3 ∨ c_z = 6) : stepF c_z n_z s_z = (s_z.1, true) := by
  unfold stepF
  rw [if_neg (by omega), if_neg (by omega), if_neg (by omega), if_pos h_z]
theorem stepF_end {c_z : Int} {n_z : Nat} {s_z : Stk × Bool} (h_z : c_z = 9 ∨ c_z = 10 ∨ c_z = 11) : stepF c_z n_z s_z = (s_z.1, false) := by
  unfold stepF
  rw [if_neg (by omega), if_neg (by omega), if_neg (by omega), if_neg (by omega), if_pos h_z]
theorem npa_id {c_z pa : Int} (h_z : c_z ≤ 2 ∨ c_z = 4 ∨ c_z = 7 ∨ c_z = 8 ∨ 12 ≤ c_z) : npa c_z pa = pa := by
  unfold npa
  rw [if_neg (by omega), if_neg (by omega)]
theorem nmk_id {c_z mq : Int} (h_z : c_z ≤ 6 ∨ 12 ≤ c_z) : nmk c_z mq = mq := by
  unfold nmk
  rw [if_neg (by omega), if_neg (by omega)]
theorem nsv_len : ∀ L_z : Stk, L_z.length = nsv L_z + nrp L_z
  | [] => rfl
  | (true, _) :: L_z => by
    have := nsv_len L_z
    show L_z.length + 1 = nsv L_z + (nrp L_z + 1)
    omega
  | (false, _) :: L_z => by
    have := nsv_len L_z
    show L_z.length + 1 = nsv L_z + 1 + nrp L_z
    omega
/-- how often v_z stands in the first k_z places -/
def cnV (f_z : Int → Int) (v_z : Int) : Nat → Int
  | 0 => 0
  | k_z + 1 => cnV f_z v_z k_z + (if f_z (k_z : Int) = v_z then 1 else 0)
theorem cnV_bd (f_z : Int → Int) (v_z : Int) : ∀ k_z : Nat, 0 ≤ cnV f_z v_z k_z ∧ cnV f_z v_z k_z ≤ k_z
  | 0 => ⟨Int.le_refl _, Int.le_refl _⟩
  | k_z + 1 => by
    have := cnV_bd f_z v_z k_z
    unfold cnV
    split <;> omega
/-- the model's row of what is open -/
def MSk (f_z : Int → Int) : Stk → Prop
  | [] => True
  | (e_z, _) :: L_z => f_z (L_z.length : Int) = (if e_z then 1 else 0) ∧ MSk f_z L_z
theorem MSk.congr {f_z f' : Int → Int} : ∀ {L_z : Stk}, MSk f_z L_z → (∀ i_z : Int, 0 ≤ i_z → i_z < (L_z.length : Int) → f' i_z = f_z i_z) → MSk f' L_z
  | [], _, _ => trivial
  | (_, _) :: L_z, h_z, e_z => by
    refine ⟨?_, MSk.congr h_z.2 (fun i_z i0_z i1_z => e_z i_z i0_z ?_)⟩
    · rw [e_z _ (by omega) (by show (L_z.length : Int) < ((L_z.length + 1 : Nat) : Int); omega)]
      exact h_z.1
    · show i_z < ((L_z.length + 1 : Nat) : Int)
      omega
theorem MSk.cnt {f_z : Int → Int} : ∀ {L_z : Stk}, MSk f_z L_z → cnV f_z 1 L_z.length = (nrp L_z : Int) ∧ cnV f_z 0 L_z.length = (nsv L_z : Int)
  | [], _ => ⟨rfl, rfl⟩
  | (true, _) :: L_z, h_z => by
    have ih_z := MSk.cnt h_z.2
    have h1 : f_z (L_z.length : Int) = 1 := h_z.1
    show cnV f_z 1 L_z.length + (if f_z (L_z.length : Int) = 1 then 1 else 0) = ((nrp L_z + 1 : Nat) : Int) ∧ cnV f_z 0 L_z.length + (if f_z (L_z.length : Int) = 0 then 1 else 0) = (nsv L_z : Int)
    rw [h1]
    omega
  | (false, _) :: L_z, h_z => by
    have ih_z := MSk.cnt h_z.2
    have h1 : f_z (L_z.length : Int) = 0 := h_z.1
    show cnV f_z 1 L_z.length + (if f_z (L_z.length : Int) = 1 then 1 else 0) = (nrp L_z : Int) ∧ cnV f_z 0 L_z.length + (if f_z (L_z.length : Int) = 0 then 1 else 0) = ((nsv L_z + 1 : Nat) : Int)
    rw [h1]
    omega
def StM (T : Mem) (m : Nat) (s_z : Stk × Bool) (pa mq : Int) : Prop := gI T m 9 = (s_z.1.length : Int) ∧ gI T m 10 = (if s_z.2 then 1 else 0) ∧ (s_z.2 = true → gI T m 11 = pa ∧ gI T m 12 = mq) ∧ MSk (gI T (m + 4)) s_z.1
/-- the same but for what is open -/
def Fa (m : Nat) (T T' : Mem) : Prop := gK T' = gK T ∧ gN T' = gN T ∧ gR T' = gR T ∧ gL T' = gL T ∧ gz T' = gz T ∧ gs T' = gs T ∧ (∀ r_z : Nat, r_z ≠ m → r_z ≠ m + 4 → gI T' r_z = gI T r_z) ∧ ∀ k_z : Int, k_z ≠ 9 → k_z ≠ 10 → k_z ≠ 11 → k_z ≠ 12 → gI T' m k_z = gI T m k_z
theorem Fa.refl (m : Nat) (T : Mem) : Fa m T T := ⟨rfl, rfl, rfl, rfl, rfl, rfl, fun _ _ _ => rfl, fun _ _ _ _ _ => rfl⟩
theorem Fa.wI {m : Nat} {T T' : Mem} (h_z : Fa m T T') (k_z v_z : Int) (hk : k_z = 9 ∨ k_z = 10 ∨ k_z = 11 ∨ k_z = 12) : Fa m T (uI T' m k_z v_z) := by
  obtain ⟨a1_z, a2, a3, a4, a5, a6, a7, a8⟩ := h_z
  exact ⟨a1_z, a2, a3, a4, a5, a6, fun r_z q_z q2_z => by rw [rI_ne q_z]; exact a7 r_z q_z q2_z, fun j_z q1_z q2_z q3_z q4_z => by rw [rI_nk (by omega)]; exact a8 j_z q1_z q2_z q3_z q4_z⟩
theorem Fa.wI4 {m : Nat} {T T' : Mem} (h_z : Fa m T T') (k_z v_z : Int) : Fa m T (uI T' (m + 4) k_z v_z) := by
  obtain ⟨a1_z, a2, a3, a4, a5, a6, a7, a8⟩ := h_z
  exact ⟨a1_z, a2, a3, a4, a5, a6, fun r_z q_z q2_z => by rw [rI_ne q2_z]; exact a7 r_z q_z q2_z, fun j_z q1_z q2_z q3_z q4_z => by rw [rI_ne (by omega)]; exact a8 j_z q1_z q2_z q3_z q4_z⟩
section EJ
variable {G : Env0} {Q : Option AV → Mem → Prop} {T : Mem} {m : Nat}
theorem X_openOf {v_z : Int} {n_z : Nat} (sm_z : ShM T m) (h9 : gI T m 9 = (n_z : Int)) (hn : n_z ≤ 9) (hQ : Q (some (a_i (cnV (gI T (m + 4)) v_z n_z))) T) : Call G J_M_openOf [a_r m, a_i v_z] T Q := by
  have loop_z : ∀ (d_z k_z : Nat), k_z + d_z = n_z → At G 182 4 [a_r m, a_i v_z, a_i (cnV (gI T (m + 4)) v_z k_z), a_i (k_z : Int)] [] T Q := by
    intro d_z
    induction d_z with
    | zero =>
      intro k_z hk
      have e_z : k_z = n_z := by omega
      rw [e_z, B_182_4]
      refine ⟨sm_z.u.1, fun _ => ?_, fun w_z => absurd (by omega) w_z⟩
      rw [B_182_36]
      exact ⟨trivial, hQ⟩
    | succ d_z ih_z =>
      intro k_z hk
      have go_z := ih_z (k_z + 1) (by omega)
      have b_z := cnV_bd (gI T (m + 4)) v_z k_z
      have e_z : cnV (gI T (m + 4)) v_z (k_z + 1) = cnV (gI T (m + 4)) v_z k_z + (if gI T (m + 4) (k_z : Int) = v_z then 1 else 0) := rfl
      rw [e_z, show ((k_z + 1 : Nat) : Int) = (k_z : Int) + 1 from by omega] at go_z
      rw [B_182_4]
      by_cases c_z : gI T (m + 4) (k_z : Int) = v_z
      · rw [if_pos c_z] at go_z
        generalize cnV (gI T (m + 4)) v_z k_z = w_z at *
        simp (disch := omega) only [sm_z.u, h9, c_z, not_true_eq_false, B_182_28, inI, inL, isT, kInt, kByt, true_and, and_true, an_t, im_t, im_f, or_true, true_or, true_imp_iff, false_imp_iff, not_true_eq_false, not_false_eq_true, gK_uI, gK_uL, gK_uR, gK_uCI, gK_uCL, gN_uI, gN_uL, gN_uR, gN_uCI, gN_uCL, gR_uI, gR_uL, gR_uCI, gR_uCL, gI_uL, gI_uR, gI_uCL, gL_uI, gL_uR, gL_uCI, gz_uI, gz_uL, gz_uR, gz_uCI, gz_uCL, gs_uI, gs_uL, gs_uR, gs_uCI, gs_uCL, rI_at, rL_at, rR_at, rI_ne, rL_ne, rR_ne, rI_nk, rL_nk, rR_nk, rI_eq, rL_eq, rR_eq, Option.toList_some, Option.toList_none, List.cons_append, List.nil_append, List.append_nil, zc_eq, zc_lt, zc_le, zc_ge, zc_gt]
        all_goals exact go_z
      · rw [if_neg c_z] at go_z
        generalize cnV (gI T (m + 4)) v_z k_z = w_z at *
        simp (disch := omega) only [sm_z.u, h9, c_z, not_false_eq_true, B_182_27, B_182_28, inI, inL, isT, kInt, kByt, true_and, and_true, an_t, im_t, im_f, or_true, true_or, true_imp_iff, false_imp_iff, not_true_eq_false, not_false_eq_true, gK_uI, gK_uL, gK_uR, gK_uCI, gK_uCL, gN_uI, gN_uL, gN_uR, gN_uCI, gN_uCL, gR_uI, gR_uL, gR_uCI, gR_uCL, gI_uL, gI_uR, gI_uCL, gL_uI, gL_uR, gL_uCI, gz_uI, gz_uL, gz_uR, gz_uCI, gz_uCL, gs_uI, gs_uL, gs_uR, gs_uCI, gs_uCL, rI_at, rL_at, rR_at, rI_ne, rL_ne, rR_ne, rI_nk, rL_nk, rR_nk, rI_eq, rL_eq, rR_eq, Option.toList_some, Option.toList_none, List.cons_append, List.nil_append, List.append_nil, zc_eq, zc_lt, zc_le, zc_ge, zc_gt]
        all_goals exact go_z
  rw [E_M_openOf, B_182_0]
  exact loop_z n_z 0 (by omega)
theorem X_opens {v_z w_z p_z : Int} {n_z : Nat} (sm_z : ShM T m) (h9 : gI T m 9 = (n_z : Int)) (hn : n_z ≤ 9) (hp : gI T m 10 = p_z) (hB_z : ¬ p_z = 0 ∨ w_z ≤ cnV (gI T (m + 4)) v_z n_z → Q (some (a_i 0)) T) (hG : p_z = 0 → cnV (gI T (m + 4)) v_z n_z < w_z → n_z < 9 ∧ Q (some (a_i 1)) (uI (uI T (m + 4) (n_z : Int) v_z) m 9 ((n_z : Int) + 1))) : Call G J_M_opens [a_r m, a_i v_z, a_i w_z] T Q := by
  by_cases c1_z : p_z = 0
  · have o := fun qq hq => X_openOf (G := G) (Q := qq) (v_z := v_z) sm_z h9 hn hq
    by_cases c2_z : w_z ≤ cnV (gI T (m + 4)) v_z n_z
    · have go_z := hB_z (Or.inr c2_z)
      have g2 : Call G J_M_openOf [a_r m, a_i v_z] T (fun r_z M2_z => At G 181 12 [a_r m, a_i v_z, a_i w_z, a_u] r_z.toList M2_z Q) := by
        refine o _ ?_
        generalize cnV (gI T (m + 4)) v_z n_z = z_z at *
        simp (disch := omega) only [B_181_12, B_181_20, B_181_21, B_181_46, inI, inL, isT, kInt, kByt, true_and, and_true, an_t, im_t, im_f, or_true, true_or, true_imp_iff, false_imp_iff, not_true_eq_false, not_false_eq_true, gK_uI, gK_uL, gK_uR, gK_uCI, gK_uCL, gN_uI, gN_uL, gN_uR, gN_uCI, gN_uCL, gR_uI, gR_uL, gR_uCI, gR_uCL, gI_uL, gI_uR, gI_uCL, gL_uI, gL_uR, gL_uCI, gz_uI, gz_uL, gz_uR, gz_uCI, gz_uCL, gs_uI, gs_uL, gs_uR, gs_uCI, gs_uCL, rI_at, rL_at, rR_at, rI_ne, rL_ne, rR_ne, rI_nk, rL_nk, rR_nk, rI_eq, rL_eq, rR_eq, Option.toList_some, Option.toList_none, List.cons_append, List.nil_append, List.append_nil, zc_eq, zc_lt, zc_le, zc_ge, zc_gt]
        all_goals exact go_z
      simp (disch := omega) only [E_M_opens, B_181_0, sm_z.u, hp, c1_z, inI, inL, isT, kInt, kByt, true_and, and_true, an_t, im_t, im_f, or_true, true_or, true_imp_iff, false_imp_iff, not_true_eq_false, not_false_eq_true, gK_uI, gK_uL, gK_uR, gK_uCI, gK_uCL, gN_uI, gN_uL, gN_uR, gN_uCI, gN_uCL, gR_uI, gR_uL, gR_uCI, gR_uCL, gI_uL, gI_uR, gI_uCL, gL_uI, gL_uR, gL_uCI, gz_uI, gz_uL, gz_uR, gz_uCI, gz_uCL, gs_uI, gs_uL, gs_uR, gs_uCI, gs_uCL, rI_at, rL_at, rR_at, rI_ne, rL_ne, rR_ne, rI_nk, rL_nk, rR_nk, rI_eq, rL_eq, rR_eq, Option.toList_some, Option.toList_none, List.cons_append, List.nil_append, List.append_nil, zc_eq, zc_lt, zc_le, zc_ge, zc_gt]
      all_goals exact g2
    · obtain ⟨n9, go_z⟩ := hG c1_z (by omega)
      have g2 : Call G J_M_openOf [a_r m, a_i v_z] T (fun r_z M2_z => At G 181 12 [a_r m, a_i v_z, a_i w_z, a_u] r_z.toList M2_z Q) := by
        refine o _ ?_
        generalize cnV (gI T (m + 4)) v_z n_z = z_z at *
        simp (disch := omega) only [B_181_12, B_181_21, sm_z.u, h9, B_181_46, inI, inL, isT, kInt, kByt, true_and, and_true, an_t, im_t, im_f, or_true, true_or, true_imp_iff, false_imp_iff, not_true_eq_false, not_false_eq_true, gK_uI, gK_uL, gK_uR, gK_uCI, gK_uCL, gN_uI, gN_uL, gN_uR, gN_uCI, gN_uCL, gR_uI, gR_uL, gR_uCI, gR_uCL, gI_uL, gI_uR, gI_uCL, gL_uI, gL_uR, gL_uCI, gz_uI, gz_uL, gz_uR, gz_uCI, gz_uCL, gs_uI, gs_uL, gs_uR, gs_uCI, gs_uCL, rI_at, rL_at, rR_at, rI_ne, rL_ne, rR_ne, rI_nk, rL_nk, rR_nk, rI_eq, rL_eq, rR_eq, Option.toList_some, Option.toList_none, List.cons_append, List.nil_append, List.append_nil, zc_eq, zc_lt, zc_le, zc_ge, zc_gt]
        all_goals exact go_z
      simp (disch := omega) only [E_M_opens, B_181_0, sm_z.u, hp, c1_z, inI, inL, isT, kInt, kByt, true_and, and_true, an_t, im_t, im_f, or_true, true_or, true_imp_iff, false_imp_iff, not_true_eq_false, not_false_eq_true, gK_uI, gK_uL, gK_uR, gK_uCI, gK_uCL, gN_uI, gN_uL, gN_uR, gN_uCI, gN_uCL, gR_uI, gR_uL, gR_uCI, gR_uCL, gI_uL, gI_uR, gI_uCL, gL_uI, gL_uR, gL_uCI, gz_uI, gz_uL, gz_uR, gz_uCI, gz_uCL, gs_uI, gs_uL, gs_uR, gs_uCI, gs_uCL, rI_at, rL_at, rR_at, rI_ne, rL_ne, rR_ne, rI_nk, rL_nk, rR_nk, rI_eq, rL_eq, rR_eq, Option.toList_some, Option.toList_none, List.cons_append, List.nil_append, List.append_nil, zc_eq, zc_lt, zc_le, zc_ge, zc_gt]
      all_goals exact g2
  · have go_z := hB_z (Or.inl c1_z)
    simp (disch := omega) only [E_M_opens, B_181_0, sm_z.u, hp, c1_z, not_false_eq_true, B_181_20, B_181_21, B_181_46, inI, inL, isT, kInt, kByt, true_and, and_true, an_t, im_t, im_f, or_true, true_or, true_imp_iff, false_imp_iff, not_true_eq_false, not_false_eq_true, gK_uI, gK_uL, gK_uR, gK_uCI, gK_uCL, gN_uI, gN_uL, gN_uR, gN_uCI, gN_uCL, gR_uI, gR_uL, gR_uCI, gR_uCL, gI_uL, gI_uR, gI_uCL, gL_uI, gL_uR, gL_uCI, gz_uI, gz_uL, gz_uR, gz_uCI, gz_uCL, gs_uI, gs_uL, gs_uR, gs_uCI, gs_uCL, rI_at, rL_at, rR_at, rI_ne, rL_ne, rR_ne, rI_nk, rL_nk, rR_nk, rI_eq, rL_eq, rR_eq, Option.toList_some, Option.toList_none, List.cons_append, List.nil_append, List.append_nil, zc_eq, zc_lt, zc_le, zc_ge, zc_gt]
    all_goals exact go_z
theorem X_closes {v_z p_z : Int} {n_z : Nat} (sm_z : ShM T m) (h9 : gI T m 9 = (n_z : Int)) (hn : n_z ≤ 9) (hp : gI T m 10 = p_z) (hB_z : ¬ p_z = 0 ∨ n_z = 0 ∨ ¬ gI T (m + 4) ((n_z : Int) - 1) = v_z → Q (some (a_i 0)) (uI T m 9 (n_z : Int))) (hG : p_z = 0 → 0 < n_z → gI T (m + 4) ((n_z : Int) - 1) = v_z → Q (some (a_i 1)) (uI T m 9 ((n_z : Int) - 1))) : Call G J_M_closes [a_r m, a_i v_z] T Q := by
  by_cases c1_z : p_z = 0
  · by_cases c2_z : n_z = 0
    · have go_z := hB_z (Or.inr (Or.inl c2_z))
      subst c2_z
      simp (disch := omega) only [E_M_closes, B_183_0, sm_z.u, hp, c1_z, h9, B_183_33, B_183_34, B_183_48, B_183_49, inI, inL, isT, kInt, kByt, true_and, and_true, an_t, im_t, im_f, or_true, true_or, true_imp_iff, false_imp_iff, not_true_eq_false, not_false_eq_true, gK_uI, gK_uL, gK_uR, gK_uCI, gK_uCL, gN_uI, gN_uL, gN_uR, gN_uCI, gN_uCL, gR_uI, gR_uL, gR_uCI, gR_uCL, gI_uL, gI_uR, gI_uCL, gL_uI, gL_uR, gL_uCI, gz_uI, gz_uL, gz_uR, gz_uCI, gz_uCL, gs_uI, gs_uL, gs_uR, gs_uCI, gs_uCL, rI_at, rL_at, rR_at, rI_ne, rL_ne, rR_ne, rI_nk, rL_nk, rR_nk, rI_eq, rL_eq, rR_eq, Option.toList_some, Option.toList_none, List.cons_append, List.nil_append, List.append_nil, zc_eq, zc_lt, zc_le, zc_ge, zc_gt]
      all_goals exact go_z
    · by_cases c3_z : gI T (m + 4) ((n_z : Int) - 1) = v_z
      · have go_z := hG c1_z (by omega) c3_z
        simp (disch := omega) only [E_M_closes, B_183_0, sm_z.u, hp, c1_z, h9, c3_z, not_true_eq_false, B_183_34, B_183_49, inI, inL, isT, kInt, kByt, true_and, and_true, an_t, im_t, im_f, or_true, true_or, true_imp_iff, false_imp_iff, not_true_eq_false, not_false_eq_true, gK_uI, gK_uL, gK_uR, gK_uCI, gK_uCL, gN_uI, gN_uL, gN_uR, gN_uCI, gN_uCL, gR_uI, gR_uL, gR_uCI, gR_uCL, gI_uL, gI_uR, gI_uCL, gL_uI, gL_uR, gL_uCI, gz_uI, gz_uL, gz_uR, gz_uCI, gz_uCL, gs_uI, gs_uL, gs_uR, gs_uCI, gs_uCL, rI_at, rL_at, rR_at, rI_ne, rL_ne, rR_ne, rI_nk, rL_nk, rR_nk, rI_eq, rL_eq, rR_eq, Option.toList_some, Option.toList_none, List.cons_append, List.nil_append, List.append_nil, zc_eq, zc_lt, zc_le, zc_ge, zc_gt]
        all_goals exact go_z
      · have go_z := hB_z (Or.inr (Or.inr c3_z))
        simp (disch := omega) only [E_M_closes, B_183_0, sm_z.u, hp, c1_z, h9, c3_z, not_false_eq_true, B_183_33, B_183_34, B_183_48, B_183_49, inI, inL, isT, kInt, kByt, true_and, and_true, an_t, im_t, im_f, or_true, true_or, true_imp_iff, false_imp_iff, not_true_eq_false, not_false_eq_true, gK_uI, gK_uL, gK_uR, gK_uCI, gK_uCL, gN_uI, gN_uL, gN_uR, gN_uCI, gN_uCL, gR_uI, gR_uL, gR_uCI, gR_uCL, gI_uL, gI_uR, gI_uCL, gL_uI, gL_uR, gL_uCI, gz_uI, gz_uL, gz_uR, gz_uCI, gz_uCL, gs_uI, gs_uL, gs_uR, gs_uCI, gs_uCL, rI_at, rL_at, rR_at, rI_ne, rL_ne, rR_ne, rI_nk, rL_nk, rR_nk, rI_eq, rL_eq, rR_eq, Option.toList_some, Option.toList_none, List.cons_append, List.nil_append, List.append_nil, zc_eq, zc_lt, zc_le, zc_ge, zc_gt]
        rw [show (n_z : Int) - 0 = (n_z : Int) from by omega]
        all_goals exact go_z
  · have go_z := hB_z (Or.inl c1_z)
    simp (disch := omega) only [E_M_closes, B_183_0, sm_z.u, hp, c1_z, not_false_eq_true, h9, B_183_33, B_183_34, B_183_48, B_183_49, inI, inL, isT, kInt, kByt, true_and, and_true, an_t, im_t, im_f, or_true, true_or, true_imp_iff, false_imp_iff, not_true_eq_false, not_false_eq_true, gK_uI, gK_uL, gK_uR, gK_uCI, gK_uCL, gN_uI, gN_uL, gN_uR, gN_uCI, gN_uCL, gR_uI, gR_uL, gR_uCI, gR_uCL, gI_uL, gI_uR, gI_uCL, gL_uI, gL_uR, gL_uCI, gz_uI, gz_uL, gz_uR, gz_uCI, gz_uCL, gs_uI, gs_uL, gs_uR, gs_uCI, gs_uCL, rI_at, rL_at, rR_at, rI_ne, rL_ne, rR_ne, rI_nk, rL_nk, rR_nk, rI_eq, rL_eq, rR_eq, Option.toList_some, Option.toList_none, List.cons_append, List.nil_append, List.append_nil, zc_eq, zc_lt, zc_le, zc_ge, zc_gt]
    rw [show (n_z : Int) - 0 = (n_z : Int) from by omega]
    all_goals exact go_z
end EJ
