/-! THE PURE PART, part 18: what is open, in the class. Own work. -/
/-- the same but for what the reader writes -/
def Fc (b : Nat) (M M' : Mem) : Prop := gK M' = gK M ∧ gN M' = gN M ∧ gz M' = gz M ∧ gs M' = gs M ∧ (∀ r_z : Nat, r_z ≠ b + 4 → r_z ≠ b + 8 → gR M' r_z = gR M r_z) ∧ (∀ r_z : Nat, r_z ≠ b + 5 → gL M' r_z = gL M r_z) ∧ (∀ r_z : Nat, r_z ≠ b + 2 → r_z ≠ b + 6 → r_z ≠ b + 7 → r_z ≠ b + 9 → gI M' r_z = gI M r_z) ∧ ∀ k_z : Int, k_z ≠ 6 → gI M' (b + 2) k_z = gI M (b + 2) k_z
theorem Fc.refl (b : Nat) (M : Mem) : Fc b M M := ⟨rfl, rfl, rfl, rfl, fun _ _ _ => rfl, fun _ _ => rfl, fun _ _ _ _ _ => rfl, fun _ _ => rfl⟩
theorem Fc.trans {b : Nat} {M M' M'' : Mem} (h_z : Fc b M M') (h2 : Fc b M' M'') : Fc b M M'' := by
  obtain ⟨a1_z, a2, a3, a4, a5, a6, a7, a8⟩ := h_z
  obtain ⟨b1, b2, b3, b4, b5, b6, b7, b8⟩ := h2
  exact ⟨b1.trans a1_z, b2.trans a2, b3.trans a3, b4.trans a4, fun r_z q1_z q2_z => (b5 r_z q1_z q2_z).trans (a5 r_z q1_z q2_z), fun r_z q_z => (b6 r_z q_z).trans (a6 r_z q_z), fun r_z q1_z q2_z q3_z q4_z => (b7 r_z q1_z q2_z q3_z q4_z).trans (a7 r_z q1_z q2_z q3_z q4_z), fun k_z q_z => (b8 k_z q_z).trans (a8 k_z q_z)⟩
theorem Fc.wI {b r_z : Nat} {M M' : Mem} (h_z : Fc b M M') (k_z v_z : Int) (hr : r_z = b + 6 ∨ r_z = b + 7 ∨ r_z = b + 9) : Fc b M (uI M' r_z k_z v_z) := by
  obtain ⟨a1_z, a2, a3, a4, a5, a6, a7, a8⟩ := h_z
  exact ⟨a1_z, a2, a3, a4, a5, a6, fun q_z q1_z q2_z q3_z q4_z => by rw [rI_ne (by omega)]; exact a7 q_z q1_z q2_z q3_z q4_z, fun j_z q_z => by rw [rI_ne (by omega)]; exact a8 j_z q_z⟩
theorem Fc.wI6 {b : Nat} {M M' : Mem} (h_z : Fc b M M') (v_z : Int) : Fc b M (uI M' (b + 2) 6 v_z) := by
  obtain ⟨a1_z, a2, a3, a4, a5, a6, a7, a8⟩ := h_z
  exact ⟨a1_z, a2, a3, a4, a5, a6, fun q_z q1_z q2_z q3_z q4_z => by rw [rI_ne (by omega)]; exact a7 q_z q1_z q2_z q3_z q4_z, fun j_z q_z => by rw [rI_nk q_z]; exact a8 j_z q_z⟩
theorem Fc.wR {b r_z : Nat} {M M' : Mem} (h_z : Fc b M M') (k_z : Int) (v_z : Nat) (hr : r_z = b + 4 ∨ r_z = b + 8) : Fc b M (uR M' r_z k_z v_z) := by
  obtain ⟨a1_z, a2, a3, a4, a5, a6, a7, a8⟩ := h_z
  exact ⟨a1_z, a2, a3, a4, fun q_z q1_z q2_z => by rw [rR_ne (by omega)]; exact a5 q_z q1_z q2_z, a6, a7, a8⟩
theorem Fc.wL {b : Nat} {M M' : Mem} (h_z : Fc b M M') (k_z v_z : Int) : Fc b M (uL M' (b + 5) k_z v_z) := by
  obtain ⟨a1_z, a2, a3, a4, a5, a6, a7, a8⟩ := h_z
  exact ⟨a1_z, a2, a3, a4, a5, fun q_z q1_z => by rw [rL_ne q1_z]; exact a6 q_z q1_z, a7, a8⟩
theorem ShRd.fc {b : Nat} {M M' : Mem} (h_z : ShRd M b) (f_z : Fc b M M') : ShRd M' b := by
  obtain ⟨a1_z, a2, a3, a4, a5, a6, a7, a8⟩ := f_z
  unfold ShRd ShRdx
  rw [a1_z, a2, a5 (b + 2) (by omega) (by omega), a5 (b + 7) (by omega) (by omega)]
  exact h_z
theorem TxC.fc {b : Nat} {M M' : Mem} {t_z : Int → Int} {L_z : Int} (h_z : TxC M (b + 2) t_z L_z) (f_z : Fc b M M') : TxC M' (b + 2) t_z L_z := by
  obtain ⟨a1_z, a2, a3, a4, a5, a6, a7, a8⟩ := f_z
  obtain ⟨h1, h2, h3, h4, h5, h6, h7, h8⟩ := h_z
  exact ⟨by rw [a1_z]; exact h1, by rw [a5 _ (by omega) (by omega)]; exact h2, by rw [a1_z]; exact h3, by rw [a2]; exact h4, by rw [a8 5 (by decide)]; exact h5, h6, h7, fun i_z i0_z i1_z => by rw [a7 _ (by omega) (by omega) (by omega) (by omega)]; exact h8 i_z i0_z i1_z⟩
theorem OpF.fc {G : Env0} {b : Nat} {M M' : Mem} (h_z : OpF G M) (hg : ∀ i_z : Nat, (i_z < 26 ∧ i_z ≠ 2) → G.2 i_z ≤ b) (f_z : Fc b M M') : OpF G M' := by
  obtain ⟨a1_z, a2, a3, a4, a5, a6, a7, a8⟩ := f_z
  have low : ∀ r_z : Nat, r_z ≤ b → gI M' r_z = gI M r_z := fun r_z hr => a7 r_z (by omega) (by omega) (by omega) (by omega)
  obtain ⟨q1_z, q2_z⟩ := h_z
  unfold OpF
  rw [a1_z, a2, low (G.2 1) (hg 1 (by decide))]
  refine ⟨q1_z, fun i_z hi_z => ?_⟩
  rw [low (G.2 (3 + i_z)) (hg _ (by omega))]
  exact q2_z i_z hi_z
theorem WdF.fc {G : Env0} {b : Nat} {M M' : Mem} (h_z : WdF G M) (hg : ∀ i_z : Nat, (i_z < 26 ∧ i_z ≠ 2) → G.2 i_z ≤ b) (hb_z : G.1 = b) (f_z : Fc b M M') : WdF G M' := by
  obtain ⟨a1_z, a2, a3, a4, a5, a6, a7, a8⟩ := f_z
  have low : ∀ r_z : Nat, r_z ≤ b → gI M' r_z = gI M r_z := fun r_z hr => a7 r_z (by omega) (by omega) (by omega) (by omega)
  have lowR : ∀ r_z : Nat, r_z ≤ b → gR M' r_z = gR M r_z := fun r_z hr => a5 r_z (by omega) (by omega)
  obtain ⟨q1_z, q2_z⟩ := h_z
  unfold WdF
  rw [a1_z, a2, lowR (G.2 0) (hg 0 (by decide))]
  refine ⟨q1_z, fun i_z hi_z => ?_⟩
  obtain ⟨w_z, a_z, w0_z, a0_z, w1_z, w2_z, w3_z, w4_z, w5, w6_z, w7_z⟩ := q2_z i_z hi_z
  refine ⟨w_z, a_z, w0_z, a0_z, ?_, w2_z, ?_, ?_, w5, w6_z, fun k_z hk => ?_⟩
  · rw [lowR (G.2 (3 + i_z)) (hg _ (by omega))]
    exact w1_z
  · rw [low w_z (by omega)]
    exact w3_z
  · rw [lowR w_z (by omega)]
    exact w4_z
  · rw [low a_z (by omega)]
    exact w7_z k_z hk
/-- the class's rows of what is open -/
def CSk (G : Env0) (fR : Int → Nat) (fI : Int → Int) : Stk → Prop
  | [] => True
  | (e_z, j_z) :: L_z => fR (L_z.length : Int) = G.2 (3 + if e_z then 14 else 0) ∧ fI (L_z.length : Int) = (j_z : Int) ∧ CSk G fR fI L_z
theorem CSk.congr {G : Env0} {fR fR' : Int → Nat} {fI fI' : Int → Int} : ∀ {L_z : Stk}, CSk G fR fI L_z → (∀ i_z : Int, 0 ≤ i_z → i_z < (L_z.length : Int) → fR' i_z = fR i_z ∧ fI' i_z = fI i_z) → CSk G fR' fI' L_z
  | [], _, _ => trivial
  | (_, _) :: L_z, h_z, e_z => by
    obtain ⟨q1_z, q2_z⟩ := e_z (L_z.length : Int) (by omega) (by show (L_z.length : Int) < ((L_z.length + 1 : Nat) : Int); omega)
    refine ⟨by rw [q1_z]; exact h_z.1, by rw [q2_z]; exact h_z.2.1, CSk.congr h_z.2.2 (fun i_z i0_z i1_z => e_z i_z i0_z ?_)⟩
    show i_z < ((L_z.length + 1 : Nat) : Int)
    omega
def StC (G : Env0) (M : Mem) (b : Nat) (s_z : Stk × Bool) (pa mq : Int) : Prop := gI M (b + 7) 2 = (s_z.1.length : Int) ∧ gI M (b + 7) 3 = (nsv s_z.1 : Int) ∧ gI M (b + 7) 4 = (nrp s_z.1 : Int) ∧ gI M (b + 7) 5 = (if s_z.2 then 1 else 0) ∧ gI M (b + 7) 6 = pa ∧ gI M (b + 7) 7 = mq ∧ CSk G (gR M (b + 8)) (gI M (b + 9)) s_z.1
/-- the partners behind a token -/
def prt (c_z : Int) (s_z : Stk) (n_z : Nat) (f_z : Int → Int) : Int → Int :=
  match s_z with
  | [] => f_z
  | (_, j_z) :: _ => if c_z = 1 ∨ c_z = 15 then (fun i_z => if i_z = (j_z : Int) then (n_z : Int) else f_z i_z) else f_z
theorem prt_id {c_z : Int} {s_z : Stk} {n_z : Nat} {f_z : Int → Int} (h_z : ¬ (c_z = 1 ∨ c_z = 15)) : prt c_z s_z n_z f_z = f_z := by
  unfold prt
  split
  · rfl
  · rw [if_neg h_z]
section EL
variable {G : Env0} {Q : Option AV → Mem → Prop} {M : Mem} {b : Nat}
theorem StC.push {s_z : Stk} {p_z : Bool} {pa mq v_z w_z : Int} {n_z o : Nat} {e_z : Bool} (st_z : StC G M b (s_z, p_z) pa mq) (hv : v_z = (nsv ((e_z, n_z) :: s_z) : Int)) (hw : w_z = (nrp ((e_z, n_z) :: s_z) : Int)) (ho : o = G.2 (3 + if e_z then 14 else 0)) (M' : Mem) (h2 : gI M' (b + 7) 2 = (s_z.length : Int) + 1) (h3 : gI M' (b + 7) 3 = v_z) (h4 : gI M' (b + 7) 4 = w_z) (hk : ∀ k_z : Int, 5 ≤ k_z → gI M' (b + 7) k_z = gI M (b + 7) k_z) (hR : gR M' (b + 8) = gR (uR M (b + 8) (s_z.length : Int) o) (b + 8)) (hI : gI M' (b + 9) = gI (uI M (b + 9) (s_z.length : Int) (n_z : Int)) (b + 9)) : StC G M' b ((e_z, n_z) :: s_z, p_z) pa mq := by
  obtain ⟨s1_z, s2_z, s3_z, s4_z, s5, s6_z, s7⟩ := st_z
  refine ⟨?_, by rw [h3]; exact hv, by rw [h4]; exact hw, by rw [hk 5 (by decide)]; exact s4_z, by rw [hk 6 (by decide)]; exact s5, by rw [hk 7 (by decide)]; exact s6_z, ?_⟩
  · rw [h2]
    show _ = ((s_z.length + 1 : Nat) : Int)
    omega
  · rw [hR, hI]
    refine ⟨?_, ?_, CSk.congr s7 (fun i_z i0_z i1_z => ?_)⟩
    · rw [rR_at]
      exact ho
    · rw [rI_at]
    · have i2_z : i_z < (s_z.length : Int) := i1_z
      rw [rR_nk (by omega), rI_nk (by omega)]
      exact ⟨rfl, rfl⟩
/-- opening -/
theorem X_opening {k_z n_z : Nat} {s_z : Stk} {p_z : Bool} {pa mq : Int} {e_z : Bool} (sh_z : ShRd M b) (ho : OpF G M) (he : k_z = if e_z then 14 else 0) (st_z : StC G M b (s_z, p_z) pa mq) (b6 : nsv s_z ≤ 6) (b3 : nrp s_z ≤ 3) (n8 : s_z.length < 9) (hQ : ∀ M', Fc b M M' → gI M' (b + 2) = gI M (b + 2) → gR M' (b + 4) = gR M (b + 4) → gL M' (b + 5) = gL M (b + 5) → gI M' (b + 6) = gI M (b + 6) → StC G M' b ((e_z, n_z) :: s_z, p_z) pa mq → Q (some (a_i 1)) M') : Call G J_St_passOpening [a_r (b + 7), a_r (G.2 (3 + k_z)), a_i (n_z : Int)] M Q := by
  have ko : gK M (G.2 (3 + k_z)) = 41 := (ho.2 k_z (by cases e_z <;> simp at he <;> omega)).2.1
  obtain ⟨s1_z, s2_z, s3_z, s4_z, s5, s6_z, s7⟩ := id st_z
  have s1_z : gI M (b + 7) 2 = (s_z.length : Int) := s1_z
  have s2_z : gI M (b + 7) 3 = (nsv s_z : Int) := s2_z
  have s3_z : gI M (b + 7) 4 = (nrp s_z : Int) := s3_z
  have f3_z : Fc b M (uI (uI (uR M (b + 8) (s_z.length : Int) (G.2 (3 + k_z))) (b + 9) (s_z.length : Int) (n_z : Int)) (b + 7) 2 ((s_z.length : Int) + 1)) := (((Fc.refl b M).wR _ _ (Or.inr rfl)).wI _ _ (by omega)).wI _ _ (by omega)
  cases e_z with
  | false =>
    have he : k_z = 0 := he
    subst he
    have go_z := hQ (uI (uI (uI (uR M (b + 8) (s_z.length : Int) (G.2 (3 + 0))) (b + 9) (s_z.length : Int) (n_z : Int)) (b + 7) 2 ((s_z.length : Int) + 1)) (b + 7) 3 ((nsv s_z : Int) + 1)) (f3_z.wI _ _ (by omega)) (by rw [rI_ne (by omega), rI_ne (by omega), rI_ne (by omega)]; rfl) (by show gR (uR M _ _ _) _ = _; rw [rR_ne (by omega)]) rfl (by rw [rI_ne (by omega), rI_ne (by omega), rI_ne (by omega)]; rfl) (StC.push (e_z := false) (n_z := n_z) (v_z := (nsv s_z : Int) + 1) (w_z := (nrp s_z : Int)) (o := G.2 (3 + 0)) st_z (by show _ = ((nsv s_z + 1 : Nat) : Int); omega) rfl rfl _ (by rw [rI_nk (by decide), rI_at]) rI_at (by rw [rI_nk (by decide), rI_nk (by decide), rI_ne (by omega)]; exact s3_z) (fun k_z hk => by rw [rI_nk (by omega), rI_nk (by omega), rI_ne (by omega)]; rfl) rfl (by rw [rI_ne (by omega), rI_ne (by omega)]; rfl))
    have g0 : G.2 (3 + 0) = G.2 3 := rfl
    simp (disch := omega) only [E_St_passOpening, B_43_0, sh_z.u, s1_z, B_43_14, ko, B_43_34, E_St_countOpen, B_44_0, B_44_20, B_44_30, g0, s2_z, B_43_50, inI, inL, isT, kInt, kByt, true_and, and_true, an_t, im_t, im_f, or_true, true_or, true_imp_iff, false_imp_iff, not_true_eq_false, not_false_eq_true, gK_uI, gK_uL, gK_uR, gK_uCI, gK_uCL, gN_uI, gN_uL, gN_uR, gN_uCI, gN_uCL, gR_uI, gR_uL, gR_uCI, gR_uCL, gI_uL, gI_uR, gI_uCL, gL_uI, gL_uR, gL_uCI, gz_uI, gz_uL, gz_uR, gz_uCI, gz_uCL, gs_uI, gs_uL, gs_uR, gs_uCI, gs_uCL, rI_at, rL_at, rR_at, rI_ne, rL_ne, rR_ne, rI_nk, rL_nk, rR_nk, rI_eq, rL_eq, rR_eq, Option.toList_some, Option.toList_none, List.cons_append, List.nil_append, List.append_nil, zc_eq, zc_lt, zc_le, zc_ge, zc_gt]
    all_goals exact go_z
  | true =>
    have he : k_z = 14 := he
    subst he
    have go_z := hQ (uI (uI (uI (uR M (b + 8) (s_z.length : Int) (G.2 (3 + 14))) (b + 9) (s_z.length : Int) (n_z : Int)) (b + 7) 2 ((s_z.length : Int) + 1)) (b + 7) 4 ((nrp s_z : Int) + 1)) (f3_z.wI _ _ (by omega)) (by rw [rI_ne (by omega), rI_ne (by omega), rI_ne (by omega)]; rfl) (by show gR (uR M _ _ _) _ = _; rw [rR_ne (by omega)]) rfl (by rw [rI_ne (by omega), rI_ne (by omega), rI_ne (by omega)]; rfl) (StC.push (e_z := true) (n_z := n_z) (v_z := (nsv s_z : Int)) (w_z := (nrp s_z : Int) + 1) (o := G.2 (3 + 14)) st_z rfl (by show _ = ((nrp s_z + 1 : Nat) : Int); omega) rfl _ (by rw [rI_nk (by decide), rI_at]) (by rw [rI_nk (by decide), rI_nk (by decide), rI_ne (by omega)]; exact s2_z) rI_at (fun k_z hk => by rw [rI_nk (by omega), rI_nk (by omega), rI_ne (by omega)]; rfl) rfl (by rw [rI_ne (by omega), rI_ne (by omega)]; rfl))
    have g1 : ¬ G.2 (3 + 14) = G.2 3 := fun q_z => absurd (OpF.inj ho (i_z := 14) (j_z := 0) (by decide) (by decide) q_z) (by decide)
    simp (disch := omega) only [E_St_passOpening, B_43_0, sh_z.u, s1_z, B_43_14, ko, B_43_34, E_St_countOpen, B_44_0, B_44_20, B_44_30, g1, not_false_eq_true, s3_z, B_43_50, inI, inL, isT, kInt, kByt, true_and, and_true, an_t, im_t, im_f, or_true, true_or, true_imp_iff, false_imp_iff, not_true_eq_false, not_false_eq_true, gK_uI, gK_uL, gK_uR, gK_uCI, gK_uCL, gN_uI, gN_uL, gN_uR, gN_uCI, gN_uCL, gR_uI, gR_uL, gR_uCI, gR_uCL, gI_uL, gI_uR, gI_uCL, gL_uI, gL_uR, gL_uCI, gz_uI, gz_uL, gz_uR, gz_uCI, gz_uCL, gs_uI, gs_uL, gs_uR, gs_uCI, gs_uCL, rI_at, rL_at, rR_at, rI_ne, rL_ne, rR_ne, rI_nk, rL_nk, rR_nk, rI_eq, rL_eq, rR_eq, Option.toList_some, Option.toList_none, List.cons_append, List.nil_append, List.append_nil, zc_eq, zc_lt, zc_le, zc_ge, zc_gt]
    all_goals exact go_z
/-- closing -/
theorem X_closing {n_z o : Nat} {s_z : Stk} {p_z : Bool} {pa mq : Int} {e_z : Bool} (sh_z : ShRd M b) (ho : OpF G M) (eo : o = G.2 (3 + if e_z then 14 else 0)) (st_z : StC G M b (s_z, p_z) pa mq) (hj : ∀ x_z, x_z ∈ s_z → x_z.2 < 160) (b6 : nsv s_z ≤ 6) (b3 : nrp s_z ≤ 3) (hB_z : ¬ hdI s_z = (if e_z then 1 else 0) → Q (some (a_i 0)) M) (hG : ∀ j_z L_z, s_z = (e_z, j_z) :: L_z → ∀ M', Fc b M M' → gI M' (b + 2) = gI M (b + 2) → gR M' (b + 4) = gR M (b + 4) → gL M' (b + 5) = gL M (b + 5) → gI M' (b + 6) = gI (uI M (b + 6) (j_z : Int) (n_z : Int)) (b + 6) → StC G M' b (L_z, p_z) pa mq → Q (some (a_i 1)) M') : Call G J_St_passClosing [a_r (b + 7), a_r o, a_i (n_z : Int), a_r (b + 6)] M Q := by
  obtain ⟨s1_z, s2_z, s3_z, s4_z, s5, s6_z, s7⟩ := id st_z
  have ln := nsv_len s_z
  cases s_z with
  | nil =>
    have s1_z : gI M (b + 7) 2 = 0 := s1_z
    have go_z := hB_z (by cases e_z <;> decide)
    simp (disch := omega) only [E_St_passClosing, B_45_0, sh_z.u, s1_z, B_45_23, inI, inL, isT, kInt, kByt, true_and, and_true, an_t, im_t, im_f, or_true, true_or, true_imp_iff, false_imp_iff, not_true_eq_false, not_false_eq_true, gK_uI, gK_uL, gK_uR, gK_uCI, gK_uCL, gN_uI, gN_uL, gN_uR, gN_uCI, gN_uCL, gR_uI, gR_uL, gR_uCI, gR_uCL, gI_uL, gI_uR, gI_uCL, gL_uI, gL_uR, gL_uCI, gz_uI, gz_uL, gz_uR, gz_uCI, gz_uCL, gs_uI, gs_uL, gs_uR, gs_uCI, gs_uCL, rI_at, rL_at, rR_at, rI_ne, rL_ne, rR_ne, rI_nk, rL_nk, rR_nk, rI_eq, rL_eq, rR_eq, Option.toList_some, Option.toList_none, List.cons_append, List.nil_append, List.append_nil, zc_eq, zc_lt, zc_le, zc_ge, zc_gt]
    all_goals exact go_z
  | cons a_z L_z =>
    obtain ⟨e', j_z⟩ := a_z
    have z1 : gI M (b + 7) 2 = (L_z.length : Int) + 1 := by
      rw [s1_z]
      show ((L_z.length + 1 : Nat) : Int) = _
      omega
    have ln2 : L_z.length + 1 = nsv ((e', j_z) :: L_z) + nrp ((e', j_z) :: L_z) := ln
    have c1_z : gR M (b + 8) (L_z.length : Int) = G.2 (3 + if e' then 14 else 0) := s7.1
    have c2_z : gI M (b + 9) (L_z.length : Int) = (j_z : Int) := s7.2.1
    have c3_z := s7.2.2
    have j160 : j_z < 160 := hj _ (List.mem_cons_self ..)
    have sub1 : (L_z.length : Int) + 1 - 1 = (L_z.length : Int) := by omega
    by_cases ce : e' = e_z
    · subst ce
      rw [← eo] at c1_z
      have popd : ∀ M', gI M' (b + 7) 2 = (L_z.length : Int) → gI M' (b + 7) 3 = (nsv L_z : Int) → gI M' (b + 7) 4 = (nrp L_z : Int) → (∀ k_z : Int, 5 ≤ k_z → gI M' (b + 7) k_z = gI M (b + 7) k_z) → gR M' (b + 8) = gR M (b + 8) → gI M' (b + 9) = gI M (b + 9) → StC G M' b (L_z, p_z) pa mq := fun M' q2_z q3_z q4_z qk qR qI => ⟨q2_z, q3_z, q4_z, by rw [qk 5 (by decide)]; exact s4_z, by rw [qk 6 (by decide)]; exact s5, by rw [qk 7 (by decide)]; exact s6_z, by rw [qR, qI]; exact c3_z⟩
      cases e' with
      | false =>
        have v2 : gI M (b + 7) 3 = (nsv L_z : Int) + 1 := by
          rw [s2_z]
          show ((nsv L_z + 1 : Nat) : Int) = _
          omega
        have v3 : gI M (b + 7) 4 = (nrp L_z : Int) := s3_z
        have v6 : nsv L_z + 1 ≤ 6 := b6
        have go_z := hG j_z L_z rfl (uI (uI (uI M (b + 7) 2 (L_z.length : Int)) (b + 7) 3 (nsv L_z : Int)) (b + 6) (j_z : Int) (n_z : Int)) ((((Fc.refl b M).wI _ _ (by omega)).wI _ _ (by omega)).wI _ _ (by omega)) (by rw [rI_ne (by omega), rI_ne (by omega), rI_ne (by omega)]) rfl rfl (by rw [rI_row, rI_row, rI_ne (by omega), rI_ne (by omega)]) (popd _ (by rw [rI_ne (by omega), rI_nk (by decide), rI_at]) (by rw [rI_ne (by omega), rI_at]) (by rw [rI_ne (by omega), rI_nk (by decide), rI_nk (by decide)]; exact v3) (fun k_z hk => by rw [rI_ne (by omega), rI_nk (by omega), rI_nk (by omega)]) rfl (by rw [rI_ne (by omega), rI_ne (by omega), rI_ne (by omega)]))
        have g0 : o = G.2 3 := eo
        have sub2 : (nsv L_z : Int) + 1 + -1 = (nsv L_z : Int) := by omega
        simp (disch := omega) only [E_St_passClosing, B_45_0, sh_z.u, z1, sub1, c1_z, B_45_25, E_St_countOpen, B_44_0, B_44_20, B_44_30, g0, v2, sub2, B_45_41, c2_z, B_45_69, inI, inL, isT, kInt, kByt, true_and, and_true, an_t, im_t, im_f, or_true, true_or, true_imp_iff, false_imp_iff, not_true_eq_false, not_false_eq_true, gK_uI, gK_uL, gK_uR, gK_uCI, gK_uCL, gN_uI, gN_uL, gN_uR, gN_uCI, gN_uCL, gR_uI, gR_uL, gR_uCI, gR_uCL, gI_uL, gI_uR, gI_uCL, gL_uI, gL_uR, gL_uCI, gz_uI, gz_uL, gz_uR, gz_uCI, gz_uCL, gs_uI, gs_uL, gs_uR, gs_uCI, gs_uCL, rI_at, rL_at, rR_at, rI_ne, rL_ne, rR_ne, rI_nk, rL_nk, rR_nk, rI_eq, rL_eq, rR_eq, Option.toList_some, Option.toList_none, List.cons_append, List.nil_append, List.append_nil, zc_eq, zc_lt, zc_le, zc_ge, zc_gt]
        all_goals exact go_z
      | true =>
        have v2 : gI M (b + 7) 4 = (nrp L_z : Int) + 1 := by
          rw [s3_z]
          show ((nrp L_z + 1 : Nat) : Int) = _
          omega
        have v3 : gI M (b + 7) 3 = (nsv L_z : Int) := s2_z
        have v6 : nrp L_z + 1 ≤ 3 := b3
        have go_z := hG j_z L_z rfl (uI (uI (uI M (b + 7) 2 (L_z.length : Int)) (b + 7) 4 (nrp L_z : Int)) (b + 6) (j_z : Int) (n_z : Int)) ((((Fc.refl b M).wI _ _ (by omega)).wI _ _ (by omega)).wI _ _ (by omega)) (by rw [rI_ne (by omega), rI_ne (by omega), rI_ne (by omega)]) rfl rfl (by rw [rI_row, rI_row, rI_ne (by omega), rI_ne (by omega)]) (popd _ (by rw [rI_ne (by omega), rI_nk (by decide), rI_at]) (by rw [rI_ne (by omega), rI_nk (by decide), rI_nk (by decide)]; exact v3) (by rw [rI_ne (by omega), rI_at]) (fun k_z hk => by rw [rI_ne (by omega), rI_nk (by omega), rI_nk (by omega)]) rfl (by rw [rI_ne (by omega), rI_ne (by omega), rI_ne (by omega)]))
        have g0 : o = G.2 (3 + 14) := eo
        have g1 : ¬ o = G.2 3 := fun q_z => absurd (OpF.inj ho (i_z := 14) (j_z := 0) (by decide) (by decide) (g0.symm.trans q_z)) (by decide)
        have sub2 : (nrp L_z : Int) + 1 + -1 = (nrp L_z : Int) := by omega
        simp (disch := omega) only [E_St_passClosing, B_45_0, sh_z.u, z1, sub1, c1_z, B_45_25, E_St_countOpen, B_44_0, B_44_20, B_44_30, g1, not_false_eq_true, v2, sub2, B_45_41, c2_z, B_45_69, inI, inL, isT, kInt, kByt, true_and, and_true, an_t, im_t, im_f, or_true, true_or, true_imp_iff, false_imp_iff, not_true_eq_false, not_false_eq_true, gK_uI, gK_uL, gK_uR, gK_uCI, gK_uCL, gN_uI, gN_uL, gN_uR, gN_uCI, gN_uCL, gR_uI, gR_uL, gR_uCI, gR_uCL, gI_uL, gI_uR, gI_uCL, gL_uI, gL_uR, gL_uCI, gz_uI, gz_uL, gz_uR, gz_uCI, gz_uCL, gs_uI, gs_uL, gs_uR, gs_uCI, gs_uCL, rI_at, rL_at, rR_at, rI_ne, rL_ne, rR_ne, rI_nk, rL_nk, rR_nk, rI_eq, rL_eq, rR_eq, Option.toList_some, Option.toList_none, List.cons_append, List.nil_append, List.append_nil, zc_eq, zc_lt, zc_le, zc_ge, zc_gt]
        all_goals exact go_z
    · have go_z := hB_z (by cases e_z <;> cases e' <;> first | exact absurd rfl ce | exact (show ¬ (1 : Int) = 0 from by decide) | exact (show ¬ (0 : Int) = 1 from by decide))
      have g1 : ¬ gR M (b + 8) (L_z.length : Int) = o := by
        rw [c1_z, eo]
        intro q_z
        cases e_z <;> cases e'
        · exact ce rfl
        · exact absurd (OpF.inj ho (i_z := 14) (j_z := 0) (by decide) (by decide) q_z) (by decide)
        · exact absurd (OpF.inj ho (i_z := 0) (j_z := 14) (by decide) (by decide) q_z) (by decide)
        · exact ce rfl
      simp (disch := omega) only [E_St_passClosing, B_45_0, sh_z.u, z1, sub1, g1, not_false_eq_true, B_45_23, inI, inL, isT, kInt, kByt, true_and, and_true, an_t, im_t, im_f, or_true, true_or, true_imp_iff, false_imp_iff, not_true_eq_false, not_false_eq_true, gK_uI, gK_uL, gK_uR, gK_uCI, gK_uCL, gN_uI, gN_uL, gN_uR, gN_uCI, gN_uCL, gR_uI, gR_uL, gR_uCI, gR_uCL, gI_uL, gI_uR, gI_uCL, gL_uI, gL_uR, gL_uCI, gz_uI, gz_uL, gz_uR, gz_uCI, gz_uCL, gs_uI, gs_uL, gs_uR, gs_uCI, gs_uCL, rI_at, rL_at, rR_at, rI_ne, rL_ne, rR_ne, rI_nk, rL_nk, rR_nk, rI_eq, rL_eq, rR_eq, Option.toList_some, Option.toList_none, List.cons_append, List.nil_append, List.append_nil, zc_eq, zc_lt, zc_le, zc_ge, zc_gt]
      all_goals exact go_z
end EL
