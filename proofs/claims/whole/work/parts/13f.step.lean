/-! THE PURE PART, part 13: steps of literals, of next, of a form's end. Own work. -/
theorem OutC.row {c : Nat} {M M' : Mem} (h_z : OutC c M M') {r_z : Nat} (hr : r_z < c) : gI M' r_z = gI M r_z ∧ gL M' r_z = gL M r_z ∧ gR M' r_z = gR M r_z := h_z.2.2.2.2 r_z (by omega)
/-- the relation behind a step that changes the frame on top alone -/
theorem Rel.frame {G : Env0} {M T M' T' : Mem} {c s m : Nat} {E_z E'_z : Int} (h_z : Rel G M T c s m E_z) (hs : ShMa M' c) (hm_z : ShM T' m) (o : OutC c M M') (eR : gR M' = gR M)
    (a1_z : ∀ r_z : Nat, c + 3 ≤ r_z → r_z < c + 17 → gI M' r_z = gI M r_z) (a2 : ∀ r_z : Nat, c + 42 ≤ r_z → r_z < c + 147 → gI M' r_z = gI M r_z ∧ gL M' r_z = gL M r_z) (a12 : gI M' c 12 = gI M c 12) (a14 : gI M' c 14 = gI M c 14) (a15 : gI M' c 15 = 0) (a13 : gI M c 13 ≤ gI M' c 13) (a6 : gI M' c 13 ≤ gI M s 6)
    (b1 : ∀ r_z : Nat, m + 1 ≤ r_z → r_z < m + 18 → gI T' r_z = gI T r_z) (b2 : ∀ k_z, k_z ≠ 49 → k_z ≠ 16 → k_z ≠ 20 → k_z ≠ 21 → gI T' m k_z = gI T m k_z) (hT_z : TrR M' T' c m) (hF : FrR M' T' c s m E'_z) : Rel G M' T' c s m E'_z := by
  obtain ⟨r1_z, r2, r3, ⟨r4, r5_z, r6, r7⟩, r8, r9, r10, r11, r12, r13, ⟨r14, r15, r16⟩, r17⟩ := h_z
  have po : Pool M T M' T' c m := Pool.same (by rw [a1_z _ (by omega) (by omega)]) (by rw [a1_z _ (by omega) (by omega)]) (a1_z _ (by omega) (by omega)) (a1_z _ (by omega) (by omega)) (a1_z _ (by omega) (by omega)) (a1_z _ (by omega) (by omega)) (a1_z _ (by omega) (by omega)) (b2 _ (by decide) (by decide) (by decide) (by decide)) (b1 _ (by omega) (by omega)) (b1 _ (by omega) (by omega)) (b1 _ (by omega) (by omega)) (b1 _ (by omega) (by omega)) (b1 _ (by omega) (by omega))
  refine ⟨hs, hm_z, OpF.out r3 o r6 r4, ⟨r4, by rw [eR]; exact r5_z, r6, by rw [eR]; exact r7⟩, EdR.out r8 o r4 r7 (b1 _ (by omega) (by omega)), hT_z, hF, GsR.fr r11 po a12 (b2 _ (by decide) (by decide) (by decide) (by decide)) a2 (b1 _ (by omega) (by omega)) (b1 _ (by omega) (by omega)), PaR.fr r12 a13 (a1_z _ (by omega) (by omega)) (a1_z _ (by omega) (by omega)) (a1_z _ (by omega) (by omega)) (a1_z _ (by omega) (by omega)) (a1_z _ (by omega) (by omega)) (a1_z _ (by omega) (by omega)) (b2 _ (by decide) (by decide) (by decide) (by decide)) (b2 _ (by decide) (by decide) (by decide) (by decide)) (b2 _ (by decide) (by decide) (by decide) (by decide)) (b2 _ (by decide) (by decide) (by decide) (by decide)) (b1 _ (by omega) (by omega)) (b1 _ (by omega) (by omega)) (b1 _ (by omega) (by omega)), ItR.fr r13 po (fun r_z r0 r1_z => a1_z r_z (by omega) (by omega)) (b2 _ (by decide) (by decide) (by decide) (by decide)) (b1 _ (by omega) (by omega)), ⟨?_, a15, ?_⟩, ?_⟩
  · rw [a14, b2 50 (by decide) (by decide) (by decide) (by decide)]
    exact r14
  · rw [b2 46 (by decide) (by decide) (by decide) (by decide)]
    exact r16
  · rw [(o.row (r_z := s) (by omega)).1]
    exact a6
/-- a value more on the stack of the frame on top, and one token on -/
theorem FrL.push {M T M' T' : Mem} {s m r_z : Nat} {l tk w_z u_z v_z d_z : Int} (h_z : FrL M T s m r_z l tk) (l0 : 0 ≤ l) (hw : gI M r_z 6 = w_z) (w1_z : w_z < 16) (hv : OpR u_z d_z v_z) (htk : tk + 1 ≤ lnm T m (gI T (m + 17) l)) (eR : gR M' = gR M) (e4_z : gI M' r_z 4 = gI M r_z 4) (e5_z : gI M' r_z 5 = tk + 1) (e6_z : gI M' r_z 6 = w_z + 1) (e7_z : gI M' r_z 7 = gI M r_z 7) (e1_z : ∀ i_z, gL M' (r_z + 1) i_z = if i_z = w_z then v_z else gL M (r_z + 1) i_z) (e2_z : gI M' (r_z + 2) = gI M (r_z + 2)) (e3_z : gI M' (r_z + 3) = gI M (r_z + 3)) (t1_z : gI T' (m + 1) = gI T (m + 1)) (t17 : gI T' (m + 17) l = gI T (m + 17) l) (t19 : gI T' (m + 19) l = w_z + 1) (t20 : gI T' (m + 20) = upf (gI T (m + 20)) (16 * l + w_z) u_z) (t21 : gI T' (m + 21) = upf (gI T (m + 21)) (16 * l + w_z) d_z) (t22 : gI T' (m + 22) l = gI T (m + 22) l) (t23 : gI T' (m + 23) = gI T (m + 23)) (t24 : gI T' (m + 24) = gI T (m + 24)) (hL : ∀ f_z : Int → Int, LpO (scan (cdm T m (gI T (m + 17) l)) tk.toNat).1 (gI M r_z 7) f_z → LpO (scan (cdm T m (gI T (m + 17) l)) (tk + 1).toNat).1 (gI M r_z 7) f_z) : FrL M' T' s m r_z l (tk + 1) := by
  obtain ⟨h1, h2, h3, h4, h5, h6, h7, h8⟩ := h_z
  have ec : ∀ x_z, cdm T' m x_z = cdm T m x_z := fun x_z => by
    funext k
    unfold cdm
    rw [t1_z]
  unfold FrL lnm
  unfold lnm at h2 h3 htk
  rw [eR, e4_z, e5_z, e6_z, e7_z, e2_z, e3_z, t1_z, t17, t19, t20, t21, t22, t23, t24, ec]
  refine ⟨h1, h2, ⟨rfl, by omega, htk⟩, ⟨rfl, by omega, by omega⟩, fun i_z i0_z i1_z => ?_, h6, h7, hL _ h8⟩
  rw [e1_z i_z]
  by_cases ci : i_z = w_z
  · subst ci
    rw [if_pos rfl, upf_at, upf_at]
    exact hv
  · rw [if_neg ci, upf_ne _ _ (by omega), upf_ne _ _ (by omega)]
    exact h5 i_z i0_z (by omega)
theorem lit_val {cd : Int} (h_z : (100 ≤ cd ∧ cd ≤ 107) ∨ (10000 ≤ cd ∧ NV (litOf cd))) : OpR (if cd < 10000 then cd - 100 else (cd - 10000) / 16 - 1000) (if cd < 10000 then 0 else (cd - 10000) % 16) (litOf cd) := by
  unfold OpR
  rcases h_z with ⟨h1, h2⟩ | ⟨h1, h2⟩
  · have e_z : litOf cd = pk (cd - 100) 0 := if_pos (by omega)
    rw [if_pos (by omega), if_pos (by omega), e_z, fu_pk (by omega) (by omega), fd_pk (by omega) (by omega)]
    exact ⟨rfl, rfl, Or.inr ⟨rfl, by omega, by omega⟩⟩
  · have e_z : litOf cd = pk ((cd - 10000) / 16 - 1000) ((cd - 10000) % 16) := if_neg (by omega)
    rw [if_neg (by omega), if_neg (by omega)]
    refine ⟨?_, ?_, Or.inl h2⟩
    · rw [e_z, fu_pk (by omega) (by omega)]
    · rw [e_z, fd_pk (by omega) (by omega)]
/-- the next token is a literal -/
theorem lit_scan {cd : Nat → Int} {k_z : Nat} (h_z : 100 ≤ cd k_z) : scan cd (k_z + 1) = scan cd k_z := stepF_id (Or.inr (Or.inr (Or.inr (Or.inr (Or.inr (Or.inr (Or.inr (by omega))))))))
section VA
variable {G : Env0} {Q : Option AV → Mem → Prop} {M T : Mem} {c s m : Nat}
theorem step_lit {E_z i_z x_z n_z tk cd : Int} {d_z p_z : Nat} (h_z : Rel G M T c s m E_z) (hd_z : gI M c 11 = (d_z : Int)) (ht : Top G M T s m (c + 22 + 4 * d_z) d_z x_z n_z tk p_z) (hlt : tk < n_z) (hcd : cdm T m x_z tk.toNat = cd) (hl : (100 ≤ cd ∧ cd ≤ 107) ∨ (10000 ≤ cd ∧ NV (litOf cd))) (hp0 : gR M (p_z + 1) tk = 0) (hpl : gL M (p_z + 2) tk = litOf cd) (i0_z : 0 ≤ i_z) (i1_z : i_z + 1 < 1000000) (hn : Nxt G c s m M E_z i_z Q) (he : Err G c s m M E_z Q) : HC G c s i_z M Q := by
  have h0 := h_z
  obtain ⟨r1_z, r2, r3, ⟨r4, r5_z, r6, r7⟩, r8, r9, r10, r11, r12, r13, ⟨r14, r15, r16⟩, r17⟩ := h_z
  have ht0 := ht
  obtain ⟨t1_z, t2_z, t3_z, t4_z, t5_z, t6, t7, t8, t9, t10, t11, t12, t13, t14, t15, t16, t17⟩ := ht
  obtain ⟨g1, g2, gF, gP⟩ := r10.get hd_z
  rw [t10] at gF
  have gF0 := gF
  obtain ⟨h1, h2, h3, ⟨h4, h4b, h4c⟩, h5, h6, h7, h8⟩ := gF
  have e0_z : zB (n_z ≤ tk) = 0 := zB_f (by omega)
  obtain ⟨f1_z, f2_z⟩ := r1_z.fr (d_z := (d_z : Int)) (by omega) (by omega)
  rw [Int.toNat_natCast] at f1_z f2_z
  have hP := fun qq => X_presentOp (G := G) (Q := qq) f2_z t7 t14 t15 (by omega) (by omega)
  rw [t9, hp0] at hP
  have n18_z : ¬ 0 = G.2 18 := fun q_z => (r3.2 15 (by decide)).1 q_z.symm
  refine HC_body r1_z hd_z ht0 i0_z (by omega) (fun u5 u6 u7 => ?_)
  rw [e0_z]
  simp (disch := omega) only [B_73_35, B_73_58, f2_z.u, r1_z.1.u, hP, B_73_76, n18_z, hd_z, t9, B_73_94, not_false_eq_true, inI, inL, isT, kInt, kByt, true_and, and_true, an_t, im_t, im_f, or_true, true_or, true_imp_iff, false_imp_iff, not_true_eq_false, not_false_eq_true, gK_uI, gK_uL, gK_uR, gK_uCI, gK_uCL, gN_uI, gN_uL, gN_uR, gN_uCI, gN_uCL, gR_uI, gR_uL, gR_uCI, gR_uCL, gI_uL, gI_uR, gI_uCL, gL_uI, gL_uR, gL_uCI, gz_uI, gz_uL, gz_uR, gz_uCI, gz_uCL, gs_uI, gs_uL, gs_uR, gs_uCI, gs_uCL, rI_at, rL_at, rR_at, rI_ne, rL_ne, rR_ne, rI_nk, rL_nk, rR_nk, rI_eq, rL_eq, rR_eq, Option.toList_some, Option.toList_none, List.cons_append, List.nil_append, List.append_nil, zc_eq, zc_lt, zc_le, zc_ge, zc_gt]
  have hMx : ∀ T', Rel G M T' c s m E_z → ∃ x' n' p', Top G M T' s m (c + 22 + 4 * d_z) d_z x' n' tk p' ∧ tk < n' ∧ cdm T' m x' tk.toNat = cd := by
    sorry
  sorry
end VA
