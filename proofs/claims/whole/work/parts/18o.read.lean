/-! THE PURE PART, part 18: the class reads a text. Own work. -/
/-- a repeat is open, or its partner is known -/
def PrF (f_z : Int → Int) (n_z : Nat) (cd : Nat → Int) : Prop := ∀ j_z : Nat, j_z < n_z → cd j_z = 14 → (true, j_z) ∈ (scan cd n_z).1 ∨ ∃ q_z : Nat, q_z < n_z ∧ f_z (j_z : Int) = (q_z : Int) ∧ Par cd j_z q_z
theorem stepF_mem {c_z : Int} {n_z : Nat} {s_z : Stk × Bool} {x_z : Bool × Nat} (h_z : ¬ (c_z = 1 ∨ c_z = 15)) (hx : x_z ∈ s_z.1) : x_z ∈ (stepF c_z n_z s_z).1 := by
  unfold stepF
  by_cases c0_z : c_z = 0
  · rw [if_pos c0_z]
    exact List.mem_cons_of_mem _ hx
  · rw [if_neg c0_z]
    by_cases c1_z : c_z = 14
    · rw [if_pos c1_z]
      exact List.mem_cons_of_mem _ hx
    · rw [if_neg c1_z, if_neg h_z]
      split
      · exact hx
      · split <;> exact hx
theorem Hst.mem {cd : Nat → Int} {k_z : Nat} : ∀ {L : Stk}, Hst cd k_z L → ∀ x_z, x_z ∈ L → x_z.2 < k_z ∧ cd x_z.2 = (if x_z.1 then 14 else 0)
  | [], _, x_z, hx => absurd hx (by simp)
  | (e_z, j_z) :: L, h_z, x_z, hx => by
    rcases List.mem_cons.mp hx with q_z | q_z
    · subst q_z
      exact ⟨h_z.1, h_z.2.2.2.1⟩
    · have := Hst.mem h_z.2.2.2.2 x_z q_z
      exact ⟨Nat.lt_trans this.1 h_z.1, this.2⟩
theorem PrF.step {f_z : Int → Int} {n_z : Nat} {cd : Nat → Int} {c_z pa mq : Int} (h_z : PrF f_z n_z cd) (hl : ∀ k_z, k_z < n_z → legal (cd k_z) (scan cd k_z)) (ok_z : okT c_z (scan cd n_z) pa mq) : PrF (prt c_z (scan cd n_z).1 n_z (upf f_z (n_z : Int) (n_z : Int))) (n_z + 1) (updC cd n_z c_z) := by
  have hh := (hst hl n_z (Nat.le_refl n_z)).1
  intro j_z hj h14
  rw [updC_next]
  by_cases cj : j_z = n_z
  · subst cj
    rw [updC_at] at h14
    left
    unfold stepF
    rw [if_neg (by omega), if_pos h14]
    exact List.mem_cons_self ..
  · have jn : j_z < n_z := by omega
    rw [updC_lt jn] at h14
    have par_z : ∀ q_z, q_z < n_z → Par cd j_z q_z → Par (updC cd n_z c_z) j_z q_z := fun q_z hq hp => ⟨hp.1, by rw [updC_lt hq]; exact hp.2.1, by rw [updC_scan (by omega), updC_scan (by omega)]; exact hp.2.2⟩
    have uf_z : upf f_z (n_z : Int) (n_z : Int) (j_z : Int) = f_z (j_z : Int) := if_neg (by omega)
    by_cases hm_z : (true, j_z) ∈ (scan cd n_z).1
    · by_cases c1_z : c_z = 1 ∨ c_z = 15
      · generalize hs : scan cd n_z = s_z at *
        obtain ⟨S_z, p_z⟩ := s_z
        cases S_z with
        | nil => exact absurd hm_z (by simp)
        | cons a_z S_z =>
          obtain ⟨e_z, j0⟩ := a_z
          have st_z : (stepF c_z n_z ((e_z, j0) :: S_z, p_z)).1 = S_z := by
            unfold stepF
            rw [if_neg (by omega), if_neg (by omega), if_pos c1_z]
            rfl
          rw [st_z]
          rcases List.mem_cons.mp hm_z with q_z | q_z
          · injection q_z with q1_z q2_z
            subst q1_z
            subst q2_z
            right
            refine ⟨n_z, by omega, ?_, jn, ?_, ?_⟩
            · show (if c_z = 1 ∨ c_z = 15 then (fun i_z => if i_z = (j_z : Int) then (n_z : Int) else upf f_z (n_z : Int) (n_z : Int) i_z) else upf f_z (n_z : Int) (n_z : Int)) (j_z : Int) = n_z
              rw [if_pos c1_z]
              show (if (j_z : Int) = (j_z : Int) then (n_z : Int) else _) = n_z
              rw [if_pos rfl]
            · rw [updC_at]
              rcases c1_z with c1_z | c1_z
              · have := (ok_z.2.2.2.1 c1_z).2
                exact absurd this (by show ¬ (1 : Int) = 0; decide)
              · exact c1_z
            · have h3 : scan cd j_z = (S_z, false) := hh.2.1
              have pF : p_z = false := by
                rcases c1_z with c1_z | c1_z
                · exact (ok_z.2.2.2.1 c1_z).1
                · exact (ok_z.2.2.2.2.1 c1_z).1
              rw [updC_scan (Nat.le_refl n_z), updC_scan (by omega), hs, h3, pF]
          · exact Or.inl q_z
      · exact Or.inl (stepF_mem c1_z hm_z)
    · rcases h_z j_z jn h14 with q_z | ⟨q_z, q1_z, q2_z, q3_z⟩
      · exact absurd q_z hm_z
      · right
        refine ⟨q_z, by omega, ?_, par_z q_z q1_z q3_z⟩
        generalize hs : scan cd n_z = s_z at *
        obtain ⟨S_z, p_z⟩ := s_z
        cases S_z with
        | nil =>
          show upf f_z (n_z : Int) (n_z : Int) (j_z : Int) = q_z
          rw [uf_z]
          exact q2_z
        | cons a_z S_z =>
          obtain ⟨e_z, j0⟩ := a_z
          show (if c_z = 1 ∨ c_z = 15 then (fun i_z => if i_z = (j0 : Int) then (n_z : Int) else upf f_z (n_z : Int) (n_z : Int) i_z) else upf f_z (n_z : Int) (n_z : Int)) (j_z : Int) = q_z
          by_cases c1_z : c_z = 1 ∨ c_z = 15
          · rw [if_pos c1_z]
            show (if (j_z : Int) = (j0 : Int) then (n_z : Int) else upf f_z (n_z : Int) (n_z : Int) (j_z : Int)) = q_z
            rw [if_neg, uf_z]
            · exact q2_z
            · intro q4_z
              have q5_z : j_z = j0 := by omega
              subst q5_z
              have h4 : cd j_z = (if e_z then 14 else 0) := hh.2.2.2.1
              cases e_z with
              | true => exact hm_z (List.mem_cons_self ..)
              | false =>
                rw [h14] at h4
                exact absurd h4 (by decide)
          · rw [if_neg c1_z, uf_z]
            exact q2_z
theorem npa_bit {c_z pa : Int} (h_z : pa = 0 ∨ pa = 1) : npa c_z pa = 0 ∨ npa c_z pa = 1 := by
  unfold npa
  split
  · exact Or.inr rfl
  · split
    · exact Or.inl rfl
    · exact h_z
theorem nmk_bit {c_z mq : Int} (h_z : mq = 0 ∨ mq = 1) : nmk c_z mq = 0 ∨ nmk c_z mq = 1 := by
  unfold nmk
  split
  · exact Or.inr rfl
  · split
    · exact Or.inl rfl
    · exact h_z
/-- without a path nothing is marked -/
theorem nmk_pm {c_z pa mq : Int} {n_z : Nat} {s_z : Stk × Bool} (ok_z : okT c_z s_z pa mq) (h_z : s_z.2 = false → mq = 0) : (stepF c_z n_z s_z).2 = false → nmk c_z mq = 0 := by
  intro q_z
  unfold nmk
  by_cases c7_z : c_z = 7 ∨ c_z = 8
  · have p1_z := ok_z.2.2.2.2.2.1 (by omega)
    rw [stepF_same (by omega), p1_z] at q_z
    exact absurd q_z (by decide)
  · rw [if_neg c7_z]
    by_cases c9_z : c_z = 9 ∨ c_z = 10 ∨ c_z = 11
    · rw [if_pos c9_z]
    · rw [if_neg c9_z]
      unfold stepF at q_z
      split at q_z
      · exact h_z q_z
      · split at q_z
        · exact h_z q_z
        · split at q_z
          · exact h_z q_z
          · split at q_z
            · exact absurd (show true = false from q_z) (by decide)
            · first | exact h_z q_z | (rw [if_neg c9_z] at q_z; exact h_z q_z)
/-- the tokens that were read -/
def TkS (G : Env0) (M : Mem) (b n_z : Nat) (cd : Nat → Int) : Prop := ∀ i_z : Nat, i_z < n_z → (0 ≤ cd i_z ∧ cd i_z ≤ 22 ∧ gR M (b + 4) (i_z : Int) = G.2 (3 + (cd i_z).toNat)) ∨ (gR M (b + 4) (i_z : Int) = 0 ∧ gL M (b + 5) (i_z : Int) = litOf (cd i_z) ∧ ((100 ≤ cd i_z ∧ cd i_z ≤ 107) ∨ (10000 ≤ cd i_z ∧ NV (litOf (cd i_z)))))
theorem TkS.step {G : Env0} {M M' : Mem} {b n_z : Nat} {cd : Nat → Int} {c_z : Int} (h_z : TkS G M b n_z cd) (a_z : TkAt G M M' b n_z c_z) : TkS G M' b (n_z + 1) (updC cd n_z c_z) := by
  intro i_z hi_z
  by_cases ci : i_z = n_z
  · rw [ci, updC_at]
    exact a_z.2
  · rw [updC_lt (by omega), (a_z.1 (i_z : Int) (by omega)).1, (a_z.1 (i_z : Int) (by omega)).2]
    exact h_z i_z (by omega)
section EO
variable {G : Env0} {Q : Option AV → Mem → Prop} {M : Mem} {b : Nat} {t : Int → Int} {L : Int}
theorem X_done {s_z : Stk × Bool} {pa mq : Int} (sh_z : ShRd M b) (st_z : StC G M b s_z pa mq) (hQ : Q (some (a_i (if s_z = ([], false) then 1 else 0))) M) : Call G J_St_isComplete [a_r (b + 7)] M Q := by
  obtain ⟨S_z, p_z⟩ := s_z
  obtain ⟨s1_z, s2_z, s3_z, s4_z, s5, s6_z, s7⟩ := st_z
  cases S_z with
  | nil =>
    have z1 : gI M (b + 7) 2 = 0 := s1_z
    cases p_z with
    | false =>
      have z4 : gI M (b + 7) 5 = 0 := s4_z
      rw [if_pos rfl] at hQ
      simp (disch := omega) only [E_St_isComplete, B_47_0, sh_z.u, z1, z4, B_47_19, inI, inL, isT, kInt, kByt, true_and, and_true, an_t, im_t, im_f, or_true, true_or, true_imp_iff, false_imp_iff, not_true_eq_false, not_false_eq_true, gK_uI, gK_uL, gK_uR, gK_uCI, gK_uCL, gN_uI, gN_uL, gN_uR, gN_uCI, gN_uCL, gR_uI, gR_uL, gR_uCI, gR_uCL, gI_uL, gI_uR, gI_uCL, gL_uI, gL_uR, gL_uCI, gz_uI, gz_uL, gz_uR, gz_uCI, gz_uCL, gs_uI, gs_uL, gs_uR, gs_uCI, gs_uCL, rI_at, rL_at, rR_at, rI_ne, rL_ne, rR_ne, rI_nk, rL_nk, rR_nk, rI_eq, rL_eq, rR_eq, Option.toList_some, Option.toList_none, List.cons_append, List.nil_append, List.append_nil, zc_eq, zc_lt, zc_le, zc_ge, zc_gt]
      all_goals exact hQ
    | true =>
      have z4 : gI M (b + 7) 5 = 1 := s4_z
      rw [if_neg (by decide)] at hQ
      simp (disch := omega) only [E_St_isComplete, B_47_0, sh_z.u, z1, z4, B_47_18, B_47_19, inI, inL, isT, kInt, kByt, true_and, and_true, an_t, im_t, im_f, or_true, true_or, true_imp_iff, false_imp_iff, not_true_eq_false, not_false_eq_true, gK_uI, gK_uL, gK_uR, gK_uCI, gK_uCL, gN_uI, gN_uL, gN_uR, gN_uCI, gN_uCL, gR_uI, gR_uL, gR_uCI, gR_uCL, gI_uL, gI_uR, gI_uCL, gL_uI, gL_uR, gL_uCI, gz_uI, gz_uL, gz_uR, gz_uCI, gz_uCL, gs_uI, gs_uL, gs_uR, gs_uCI, gs_uCL, rI_at, rL_at, rR_at, rI_ne, rL_ne, rR_ne, rI_nk, rL_nk, rR_nk, rI_eq, rL_eq, rR_eq, Option.toList_some, Option.toList_none, List.cons_append, List.nil_append, List.append_nil, zc_eq, zc_lt, zc_le, zc_ge, zc_gt]
      all_goals exact hQ
  | cons a_z S_z =>
    have z1 : gI M (b + 7) 2 = (S_z.length : Int) + 1 := by
      rw [s1_z]
      show ((S_z.length + 1 : Nat) : Int) = _
      omega
    rw [if_neg (by intro q_z; injection q_z with q1 q2; cases q1)] at hQ
    simp (disch := omega) only [E_St_isComplete, B_47_0, sh_z.u, z1, B_47_18, B_47_19, inI, inL, isT, kInt, kByt, true_and, and_true, an_t, im_t, im_f, or_true, true_or, true_imp_iff, false_imp_iff, not_true_eq_false, not_false_eq_true, gK_uI, gK_uL, gK_uR, gK_uCI, gK_uCL, gN_uI, gN_uL, gN_uR, gN_uCI, gN_uCL, gR_uI, gR_uL, gR_uCI, gR_uCL, gI_uL, gI_uR, gI_uCL, gL_uI, gL_uR, gL_uCI, gz_uI, gz_uL, gz_uR, gz_uCI, gz_uCL, gs_uI, gs_uL, gs_uR, gs_uCI, gs_uCL, rI_at, rL_at, rR_at, rI_ne, rL_ne, rR_ne, rI_nk, rL_nk, rR_nk, rI_eq, rL_eq, rR_eq, Option.toList_some, Option.toList_none, List.cons_append, List.nil_append, List.append_nil, zc_eq, zc_lt, zc_le, zc_ge, zc_gt]
    all_goals exact hQ
theorem X_rdLoop (ht : ∀ i_z, 0 ≤ i_z → i_z < L → 0 ≤ t i_z ∧ t i_z ≤ 255) (hgb : ∀ i_z : Nat, (i_z < 26 ∧ i_z ≠ 2) → G.2 i_z ≤ b) (hb1 : G.1 = b) : ∀ (d_z : Nat) (M : Mem) (n_z : Nat) (cd : Nat → Int) (x_z pa mq : Int) (u3 : AV), ShRd M b → TxC M (b + 2) t L → WdF G M → OpF G M → StC G M b (scan cd n_z) pa mq → (pa = 0 ∨ pa = 1) → (mq = 0 ∨ mq = 1) → (∀ k_z, k_z < n_z → legal (cd k_z) (scan cd k_z)) → Jn t L n_z x_z → gI M (b + 2) 6 = (n_z : Int) → TkS G M b n_z cd → PrF (gI M (b + 6)) n_z cd → 0 ≤ x_z → x_z ≤ L → L - x_z < d_z → (∀ e_z n' cd', rdT t L d_z n_z cd x_z pa mq = (e_z, n', cd') → ∀ M', Fc b M M' → (e_z = -1 → gI M' (b + 2) 6 = (n' : Int) ∧ TkS G M' b n' cd' ∧ PrF (gI M' (b + 6)) n' cd') → Q (some (a_i e_z)) M') → At G 16 20 [a_r (b + 2), a_i x_z, a_i (n_z : Int), u3] [] M Q := by
  intro d_z
  induction d_z with
  | zero =>
    intro M n_z cd x_z pa mq u3 _ _ _ _ _ _ _ _ _ _ _ _ x0_z x1_z hd_z _
    omega
  | succ d_z ih_z =>
    intro M n_z cd x_z pa mq u3 sh_z tx wf ho st_z pb mb hl hj h6 tk pr x0_z x1_z hd_z hQ
    have L1 := tx.2.2.2.2.2.2.1
    have n107 : n_z ≤ 107 := by
      unfold Jn at hj
      omega
    have h5 : gI M (b + 2) 5 = L := tx.2.2.2.2.1
    obtain ⟨hh, b6, b3⟩ := hst hl n_z (Nat.le_refl n_z)
    have hjj : ∀ x_z, x_z ∈ (scan cd n_z).1 → x_z.2 < 160 := fun y_z hy => by
      have := (hh.mem y_z hy).1
      omega
    by_cases c1_z : L ≤ x_z
    · have eqn := rdT_end (t_z := t) (d_z := d_z) (n_z := n_z) (cd := cd) (pa := pa) (mq := mq) c1_z
      have go_z : Call G J_St_isComplete [a_r (b + 7)] M (fun r_z M2_z => At G 16 81 [a_r (b + 2), a_i x_z, a_i (n_z : Int), u3] r_z.toList M2_z Q) := by
        refine X_done sh_z st_z ?_
        by_cases c2_z : scan cd n_z = ([], false)
        · rw [if_pos c2_z] at eqn ⊢
          have g_z := hQ _ _ _ eqn M (Fc.refl b M) (fun _ => ⟨h6, tk, pr⟩)
          simp (disch := omega) only [B_16_81, B_16_92, inI, inL, isT, kInt, kByt, true_and, and_true, an_t, im_t, im_f, or_true, true_or, true_imp_iff, false_imp_iff, not_true_eq_false, not_false_eq_true, gK_uI, gK_uL, gK_uR, gK_uCI, gK_uCL, gN_uI, gN_uL, gN_uR, gN_uCI, gN_uCL, gR_uI, gR_uL, gR_uCI, gR_uCL, gI_uL, gI_uR, gI_uCL, gL_uI, gL_uR, gL_uCI, gz_uI, gz_uL, gz_uR, gz_uCI, gz_uCL, gs_uI, gs_uL, gs_uR, gs_uCI, gs_uCL, rI_at, rL_at, rR_at, rI_ne, rL_ne, rR_ne, rI_nk, rL_nk, rR_nk, rI_eq, rL_eq, rR_eq, Option.toList_some, Option.toList_none, List.cons_append, List.nil_append, List.append_nil, zc_eq, zc_lt, zc_le, zc_ge, zc_gt]
          all_goals exact g_z
        · rw [if_neg c2_z] at eqn ⊢
          have g_z := hQ _ _ _ eqn M (Fc.refl b M) (fun q_z => by omega)
          simp (disch := omega) only [B_16_81, B_16_88, sh_z.u, h5, B_16_92, inI, inL, isT, kInt, kByt, true_and, and_true, an_t, im_t, im_f, or_true, true_or, true_imp_iff, false_imp_iff, not_true_eq_false, not_false_eq_true, gK_uI, gK_uL, gK_uR, gK_uCI, gK_uCL, gN_uI, gN_uL, gN_uR, gN_uCI, gN_uCL, gR_uI, gR_uL, gR_uCI, gR_uCL, gI_uL, gI_uR, gI_uCL, gL_uI, gL_uR, gL_uCI, gz_uI, gz_uL, gz_uR, gz_uCI, gz_uCL, gs_uI, gs_uL, gs_uR, gs_uCI, gs_uCL, rI_at, rL_at, rR_at, rI_ne, rL_ne, rR_ne, rI_nk, rL_nk, rR_nk, rI_eq, rL_eq, rR_eq, Option.toList_some, Option.toList_none, List.cons_append, List.nil_append, List.append_nil, zc_eq, zc_lt, zc_le, zc_ge, zc_gt]
          all_goals exact g_z
      rw [B_16_20]
      simp (disch := omega) only [sh_z.u, h5, B_16_74, inI, inL, isT, kInt, kByt, true_and, and_true, an_t, im_t, im_f, or_true, true_or, true_imp_iff, false_imp_iff, not_true_eq_false, not_false_eq_true, gK_uI, gK_uL, gK_uR, gK_uCI, gK_uCL, gN_uI, gN_uL, gN_uR, gN_uCI, gN_uCL, gR_uI, gR_uL, gR_uCI, gR_uCL, gI_uL, gI_uR, gI_uCL, gL_uI, gL_uR, gL_uCI, gz_uI, gz_uL, gz_uR, gz_uCI, gz_uCL, gs_uI, gs_uL, gs_uR, gs_uCI, gs_uCL, rI_at, rL_at, rR_at, rI_ne, rL_ne, rR_ne, rI_nk, rL_nk, rR_nk, rI_eq, rL_eq, rR_eq, Option.toList_some, Option.toList_none, List.cons_append, List.nil_append, List.append_nil, zc_eq, zc_lt, zc_le, zc_ge, zc_gt]
      all_goals exact go_z
    · have eb := tkE_bd (t := t) x0_z (show x_z < L by omega)
      have g1 : Call G J_Rd_readToken [a_r (b + 2), a_i x_z, a_i (tkE t L x_z)] M (fun r_z M2_z => At G 16 47 [a_r (b + 2), a_i x_z, a_i (n_z : Int), a_i (tkE t L x_z)] r_z.toList M2_z Q) := by
        refine X_readTok (S_z := (scan cd n_z).1) (p_z := (scan cd n_z).2) sh_z tx wf ho hgb hb1 st_z pb mb hjj b6 b3 h6 (by omega) x0_z (by omega) ht (fun hb_z M' f_z => ?_) (fun hc_z hk M' f_z q1_z q2_z q3_z q4_z => ?_)
        · have eqn := rdT_bad (d_z := d_z) c1_z hb_z
          have g_z := hQ _ _ _ eqn M' f_z (fun q_z => by omega)
          simp (disch := omega) only [B_16_47, not_true_eq_false, inI, inL, isT, kInt, kByt, true_and, and_true, an_t, im_t, im_f, or_true, true_or, true_imp_iff, false_imp_iff, not_true_eq_false, not_false_eq_true, gK_uI, gK_uL, gK_uR, gK_uCI, gK_uCL, gN_uI, gN_uL, gN_uR, gN_uCI, gN_uCL, gR_uI, gR_uL, gR_uCI, gR_uCL, gI_uL, gI_uR, gI_uCL, gL_uI, gL_uR, gL_uCI, gz_uI, gz_uL, gz_uR, gz_uCI, gz_uCL, gs_uI, gs_uL, gs_uR, gs_uCI, gs_uCL, rI_at, rL_at, rR_at, rI_ne, rL_ne, rR_ne, rI_nk, rL_nk, rR_nk, rI_eq, rL_eq, rR_eq, Option.toList_some, Option.toList_none, List.cons_append, List.nil_append, List.append_nil, zc_eq, zc_lt, zc_le, zc_ge, zc_gt]
          all_goals exact g_z
        · have eqn := rdT_good (d_z := d_z) c1_z hc_z hk
          have sh1 := sh_z.fc f_z
          have e6_z : gI M' (b + 2) 6 = (n_z : Int) := by
            rw [q1_z]
            exact h6
          have f2_z : Fc b M (uI M' (b + 2) 6 ((n_z : Int) + 1)) := f_z.wI6 _
          have tx2 := tx.fc f2_z
          have sb_z := skE_bd (t_z := t) (L_z := L) (x_z := tkE t L x_z) eb.2
          have g3_z := ih_z (uI M' (b + 2) 6 ((n_z : Int) + 1)) (n_z + 1) (updC cd n_z (tkC t L x_z)) (skE t L (tkE t L x_z)) (npa (tkC t L x_z) pa) (nmk (tkC t L x_z) mq) (a_i (tkE t L x_z)) (sh_z.fc f2_z) tx2 (wf.fc hgb hb1 f2_z) (ho.fc hgb f2_z) (by
            rw [updC_next]
            exact StC.fc q4_z (by rw [rI_ne (by omega)]) rfl (by rw [rI_ne (by omega)])) (npa_bit pb) (nmk_bit mb) (fun k_z hk' => by
            by_cases c5_z : k_z = n_z
            · rw [c5_z, updC_at, updC_scan (Nat.le_refl n_z)]
              exact hk.legal
            · rw [updC_lt (by omega), updC_scan (by omega)]
              exact hl k_z (by omega)) (hj.step x0_z (by omega) hc_z) (by rw [rI_at]; omega) (tk.step q2_z) (by
            have := pr.step hl hk
            rw [← q3_z] at this
            rw [rI_ne (by omega)]
            exact this) (by omega) (by omega) (by omega) (fun e_z n' cd' he M2_z f3_z => hQ e_z n' cd' (by rw [eqn]; exact he) M2_z (f2_z.trans f3_z))
          have g2 : Call G J_Rd_skipSpaces [a_r (b + 2), a_i (tkE t L x_z)] (uI M' (b + 2) 6 ((n_z : Int) + 1)) (fun r_z M2_z => At G 16 67 [a_r (b + 2), a_i x_z, a_i (n_z : Int), a_i (tkE t L x_z)] r_z.toList M2_z Q) := by
            refine X_skC tx2 (by omega) eb.2 ?_
            rw [show ((n_z + 1 : Nat) : Int) = (n_z : Int) + 1 from by omega] at g3_z
            generalize skE t L (tkE t L x_z) = w_z at *
            simp (disch := omega) only [B_16_67, inI, inL, isT, kInt, kByt, true_and, and_true, an_t, im_t, im_f, or_true, true_or, true_imp_iff, false_imp_iff, not_true_eq_false, not_false_eq_true, gK_uI, gK_uL, gK_uR, gK_uCI, gK_uCL, gN_uI, gN_uL, gN_uR, gN_uCI, gN_uCL, gR_uI, gR_uL, gR_uCI, gR_uCL, gI_uL, gI_uR, gI_uCL, gL_uI, gL_uR, gL_uCI, gz_uI, gz_uL, gz_uR, gz_uCI, gz_uCL, gs_uI, gs_uL, gs_uR, gs_uCI, gs_uCL, rI_at, rL_at, rR_at, rI_ne, rL_ne, rR_ne, rI_nk, rL_nk, rR_nk, rI_eq, rL_eq, rR_eq, Option.toList_some, Option.toList_none, List.cons_append, List.nil_append, List.append_nil, zc_eq, zc_lt, zc_le, zc_ge, zc_gt]
            all_goals exact g3_z
          clear g3_z hQ ih_z
          generalize tkE t L x_z = w_z at *
          simp (disch := omega) only [B_16_47, B_16_52, sh1.u, e6_z, inI, inL, isT, kInt, kByt, true_and, and_true, an_t, im_t, im_f, or_true, true_or, true_imp_iff, false_imp_iff, not_true_eq_false, not_false_eq_true, gK_uI, gK_uL, gK_uR, gK_uCI, gK_uCL, gN_uI, gN_uL, gN_uR, gN_uCI, gN_uCL, gR_uI, gR_uL, gR_uCI, gR_uCL, gI_uL, gI_uR, gI_uCL, gL_uI, gL_uR, gL_uCI, gz_uI, gz_uL, gz_uR, gz_uCI, gz_uCL, gs_uI, gs_uL, gs_uR, gs_uCI, gs_uCL, rI_at, rL_at, rR_at, rI_ne, rL_ne, rR_ne, rI_nk, rL_nk, rR_nk, rI_eq, rL_eq, rR_eq, Option.toList_some, Option.toList_none, List.cons_append, List.nil_append, List.append_nil, zc_eq, zc_lt, zc_le, zc_ge, zc_gt]
          all_goals exact g2
      have g0 : Call G J_Rd_findEnd [a_r (b + 2), a_i x_z] M (fun r_z M2_z => At G 16 40 [a_r (b + 2), a_i x_z, a_i (n_z : Int), u3] r_z.toList M2_z Q) := by
        refine X_endC tx x0_z (by omega) ?_
        clear hQ ih_z
        generalize tkE t L x_z = w_z at *
        simp (disch := omega) only [B_16_40, sh_z.u, inI, inL, isT, kInt, kByt, true_and, and_true, an_t, im_t, im_f, or_true, true_or, true_imp_iff, false_imp_iff, not_true_eq_false, not_false_eq_true, gK_uI, gK_uL, gK_uR, gK_uCI, gK_uCL, gN_uI, gN_uL, gN_uR, gN_uCI, gN_uCL, gR_uI, gR_uL, gR_uCI, gR_uCL, gI_uL, gI_uR, gI_uCL, gL_uI, gL_uR, gL_uCI, gz_uI, gz_uL, gz_uR, gz_uCI, gz_uCL, gs_uI, gs_uL, gs_uR, gs_uCI, gs_uCL, rI_at, rL_at, rR_at, rI_ne, rL_ne, rR_ne, rI_nk, rL_nk, rR_nk, rI_eq, rL_eq, rR_eq, Option.toList_some, Option.toList_none, List.cons_append, List.nil_append, List.append_nil, zc_eq, zc_lt, zc_le, zc_ge, zc_gt]
        all_goals exact g1
      rw [B_16_20]
      clear hQ ih_z
      simp (disch := omega) only [sh_z.u, h5, inI, inL, isT, kInt, kByt, true_and, and_true, an_t, im_t, im_f, or_true, true_or, true_imp_iff, false_imp_iff, not_true_eq_false, not_false_eq_true, gK_uI, gK_uL, gK_uR, gK_uCI, gK_uCL, gN_uI, gN_uL, gN_uR, gN_uCI, gN_uCL, gR_uI, gR_uL, gR_uCI, gR_uCL, gI_uL, gI_uR, gI_uCL, gL_uI, gL_uR, gL_uCI, gz_uI, gz_uL, gz_uR, gz_uCI, gz_uCL, gs_uI, gs_uL, gs_uR, gs_uCI, gs_uCL, rI_at, rL_at, rR_at, rI_ne, rL_ne, rR_ne, rI_nk, rL_nk, rR_nk, rI_eq, rL_eq, rR_eq, Option.toList_some, Option.toList_none, List.cons_append, List.nil_append, List.append_nil, zc_eq, zc_lt, zc_le, zc_ge, zc_gt]
      all_goals exact g0
/-- what reading comes to -/
def rdR (t : Int → Int) (L : Int) : Int × Nat × (Nat → Int) := rdT t L 200 0 (fun _ => 0) (skE t L 0) 0 0
theorem X_read (ht : ∀ i_z, 0 ≤ i_z → i_z < L → 0 ≤ t i_z ∧ t i_z ≤ 255) (hgb : ∀ i_z : Nat, (i_z < 26 ∧ i_z ≠ 2) → G.2 i_z ≤ b) (hb1 : G.1 = b) (sh_z : ShRd M b) (tx : TxC M (b + 2) t L) (wf : WdF G M) (ho : OpF G M) (hQ : ∀ e_z n' cd', rdR t L = (e_z, n', cd') → ∀ M', Fc b M M' → (e_z = -1 → gI M' (b + 2) 6 = (n' : Int) ∧ TkS G M' b n' cd' ∧ PrF (gI M' (b + 6)) n' cd') → Q (some (a_i e_z)) M') : Call G J_Rd_read [a_r (b + 2)] M Q := by
  have L0_z := tx.2.2.2.2.2.1
  have L1 := tx.2.2.2.2.2.2.1
  have sb_z := skE_bd (t_z := t) (L_z := L) (x_z := 0) L0_z
  have f1_z : Fc b M (uI (uI (uI (uI (uI (uI (uI M (b + 2) 6 0) (b + 7) 2 0) (b + 7) 3 0) (b + 7) 4 0) (b + 7) 5 0) (b + 7) 6 0) (b + 7) 7 0) := ((((((((Fc.refl b M).wI6 0).wI _ _ (by omega)).wI _ _ (by omega)).wI _ _ (by omega)).wI _ _ (by omega)).wI _ _ (by omega)).wI _ _ (by omega))
  have e6_z : gI (uI (uI (uI (uI (uI (uI (uI M (b + 2) 6 0) (b + 7) 2 0) (b + 7) 3 0) (b + 7) 4 0) (b + 7) 5 0) (b + 7) 6 0) (b + 7) 7 0) (b + 2) 6 = 0 := by
    rw [rI_ne (by omega), rI_ne (by omega), rI_ne (by omega), rI_ne (by omega), rI_ne (by omega), rI_ne (by omega), rI_at]
  have st_z : StC G (uI (uI (uI (uI (uI (uI (uI M (b + 2) 6 0) (b + 7) 2 0) (b + 7) 3 0) (b + 7) 4 0) (b + 7) 5 0) (b + 7) 6 0) (b + 7) 7 0) b ([], false) 0 0 := by
    refine ⟨?_, ?_, ?_, ?_, ?_, ?_, trivial⟩
    · rw [rI_nk (by decide), rI_nk (by decide), rI_nk (by decide), rI_nk (by decide), rI_nk (by decide), rI_at]
      rfl
    · rw [rI_nk (by decide), rI_nk (by decide), rI_nk (by decide), rI_nk (by decide), rI_at]
      rfl
    · rw [rI_nk (by decide), rI_nk (by decide), rI_nk (by decide), rI_at]
      rfl
    · rw [rI_nk (by decide), rI_nk (by decide), rI_at]
      rfl
    · rw [rI_nk (by decide), rI_at]
    · rw [rI_at]
  have lp := X_rdLoop (Q := Q) ht hgb hb1 200 _ 0 (fun _ => 0) (skE t L 0) 0 0 a_u (sh_z.fc f1_z) (tx.fc f1_z) (wf.fc hgb hb1 f1_z) (ho.fc hgb f1_z) st_z (Or.inl rfl) (Or.inl rfl) (fun k_z hk => absurd hk (by omega)) (Or.inl (by omega)) e6_z (fun i_z hi_z => absurd hi_z (by omega)) (fun j_z hj => absurd hj (by omega)) (by omega) sb_z.2 (by omega) (fun e_z n' cd' he M' f_z => hQ e_z n' cd' he M' (f1_z.trans f_z))
  have sh1 := sh_z.u
  have g2 : Call G J_Rd_skipSpaces [a_r (b + 2), a_i 0] (uI (uI (uI (uI (uI (uI (uI M (b + 2) 6 0) (b + 7) 2 0) (b + 7) 3 0) (b + 7) 4 0) (b + 7) 5 0) (b + 7) 6 0) (b + 7) 7 0) (fun r_z M2_z => At G 16 17 [a_r (b + 2), a_u, a_u, a_u] r_z.toList M2_z Q) := by
    refine X_skC (tx.fc f1_z) (by decide) L0_z ?_
    clear hQ
    generalize skE t L 0 = w_z at *
    rw [Option.toList_some, B_16_17]
    exact lp
  clear hQ lp
  simp (disch := omega) only [E_Rd_read, B_16_0, sh1, E_St_begin, B_17_0, B_17_10, B_17_19, E_St_endPath, B_18_0, B_18_10, B_16_12, inI, inL, isT, kInt, kByt, true_and, and_true, an_t, im_t, im_f, or_true, true_or, true_imp_iff, false_imp_iff, not_true_eq_false, not_false_eq_true, gK_uI, gK_uL, gK_uR, gK_uCI, gK_uCL, gN_uI, gN_uL, gN_uR, gN_uCI, gN_uCL, gR_uI, gR_uL, gR_uCI, gR_uCL, gI_uL, gI_uR, gI_uCL, gL_uI, gL_uR, gL_uCI, gz_uI, gz_uL, gz_uR, gz_uCI, gz_uCL, gs_uI, gs_uL, gs_uR, gs_uCI, gs_uCL, rI_at, rL_at, rR_at, rI_ne, rL_ne, rR_ne, rI_nk, rL_nk, rR_nk, rI_eq, rL_eq, rR_eq, Option.toList_some, Option.toList_none, List.cons_append, List.nil_append, List.append_nil, zc_eq, zc_lt, zc_le, zc_ge, zc_gt]
  all_goals exact g2
end EO
