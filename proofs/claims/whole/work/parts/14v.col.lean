/-! THE PURE PART, part 14: color. Own work. -/
section AS
variable {G : Env0} {Q : Option AV → Mem → Prop} {M T : Mem} {c s m r : Nat}
/-- the model finds what the class finds -/
theorem Rel.found {E_z w_z u_z : Int} {d_z : Nat} {T3 : Mem} (h' : Rel G M T c s m E_z) (hd_z : gI M c 11 = (d_z : Int)) (hs : ShM T3 m) (t1_z : gI T3 (m + 1) = gI T (m + 1)) (t17 : gI T3 (m + 17) = gI T (m + 17)) (hl : gI T3 m 36 = (d_z : Int)) (hw : gI T3 (m + 19) d_z = w_z) (w0_z : 1 ≤ w_z) (w1_z : w_z ≤ 16) (hu : gI T3 (m + 20) (16 * d_z + w_z - 1) = u_z) (u0 : 0 ≤ u_z) (u1_z : u_z ≤ 7) {qq : Option AV → Mem → Prop} (hq : qq (some (a_i (CV M c s d_z u_z))) T3) : Call G J_M_found [a_r m] T3 qq := by
  have st_z := h'.strm hd_z
  obtain ⟨g1, -⟩ := h'.opn hd_z
  refine X_found hs hl hw g1 w0_z w1_z hu u0 u1_z (fun l l1 l2 => by rw [t17]; have := st_z l l2; omega) ?_
  rw [t1_z, t17, ← (h'.lk hd_z u0 u1_z).1]
  exact hq
theorem fin_color {Mp T' T1 T3 T4 : Mem} {d_z g_z : Nat} {tk w_z col tp : Int} (hc5 : Mp = uI (uI (uI M (c + 22 + 4 * d_z) 5 (tk + 1)) g_z 3 col) (c + 22 + 4 * d_z) 6 (w_z - 1)) (hcol : 0 ≤ col ∧ col ≤ 15) (htp : gI M c 12 = tp) (hgg : c + 42 + 3 * tp.toNat = g_z) (t3_z : Tr3 T' T1 T3 m) (g1 : d_z < 5) (hT_z : T4 = uI (uI T3 (m + 19) d_z (w_z - 1)) (m + 6) 12 col) (q11_z : GsR M T' c m) (q12_z : PaR M T' c m) (q13_z : ItR M T' c m) : LeM T' T3 T4 m d_z (w_z - 1) ∧ gI T4 m 25 = gI T' m 25 ∧ ∀ M2_z, Cnt Mp M2_z c → gI M2_z c 12 = tp ∧ GsR M2_z T4 c m ∧ PaR M2_z T4 c m ∧ ItR M2_z T4 c m := by
  obtain ⟨t1_z, t2_z, t4_z, t5_z, t6⟩ := t3_z
  have tp1 := q11_z.2.1
  have tp2 := q11_z.2.2.1
  rw [htp] at tp1 tp2
  have gb : c + 42 ≤ g_z ∧ g_z + 2 < c + 147 := by omega
  have oK : OutM m T3 T4 := by
    rw [hT_z]
    exact ((Ex.refl _ _).uI _ _ (by omega)).uI _ _ (by omega)
  have k19 : gI T4 (m + 19) = upf (gI T' (m + 19)) d_z (w_z - 1) := by
    rw [hT_z, rI_ne (by omega), rI_row, t2_z _ (by omega) (by omega) (by omega) (by omega) (by omega)]
  have k6_z : gI T4 (m + 6) = upf (gI T' (m + 6)) 12 col := by
    rw [hT_z, rI_row, rI_ne (by omega), t2_z _ (by omega) (by omega) (by omega) (by omega) (by omega)]
  have kr : ∀ a_z, a_z ≠ m + 6 → a_z ≠ m + 19 → gI T4 a_z = gI T3 a_z := fun a_z n0_z n1_z => by
    rw [hT_z, rI_ne n0_z, rI_ne n1_z]
  have kr' : ∀ a_z, a_z ≠ m → a_z ≠ m + 6 → a_z ≠ m + 19 → a_z ≠ m + 25 → a_z ≠ m + 26 → a_z ≠ m + 27 → a_z ≠ m + 28 → gI T4 a_z = gI T' a_z := fun a_z n0_z n1_z n2_z n3_z n4_z n5_z n6_z => by rw [kr a_z n1_z n2_z, t2_z a_z n0_z n3_z n4_z n5_z n6_z]
  have kf' : ∀ j_z, j_z ≠ 49 → j_z ≠ 16 → j_z ≠ 20 → j_z ≠ 21 → gI T4 m j_z = gI T' m j_z := fun j_z n0_z n1_z n2_z n3_z => by rw [kr m (by omega) (by omega), t4_z j_z n0_z n1_z n2_z n3_z]
  refine ⟨⟨oK, fun a_z ha_z => kr' a_z (by omega) (by omega) (by omega) (by omega) (by omega) (by omega) (by omega), kr _ (by omega) (by omega), k19, fun j_z hj => kf' j_z (by omega) (by omega) (by omega) (by omega), by rw [kr m (by omega) (by omega)]⟩, kf' 25 (by decide) (by decide) (by decide) (by decide), fun M2_z hc_z => ?_⟩
  obtain ⟨e1_z, e2_z, e3_z, e4_z, e5_z⟩ := hc_z
  have pr : ∀ a_z, a_z ≠ c + 22 + 4 * d_z → a_z ≠ g_z → gI Mp a_z = gI M a_z := fun a_z n0_z n1_z => by rw [hc5, rI_ne n0_z, rI_ne n1_z, rI_ne n0_z]
  have er : ∀ a_z, a_z ≠ c → a_z ≠ c + 17 → a_z ≠ c + 18 → a_z ≠ c + 19 → a_z ≠ c + 22 + 4 * d_z → a_z ≠ g_z → gI M2_z a_z = gI M a_z := fun a_z n0_z n1_z n2_z n3_z n4_z n5_z => by rw [e3_z a_z n0_z n1_z n2_z n3_z, pr a_z n4_z n5_z]
  have eL : gL M2_z = gL M := by
    rw [e1_z, hc5]
    rfl
  have eg : ∀ j_z, j_z ≠ 3 → gI M2_z g_z j_z = gI M g_z j_z := fun j_z n0_z => by rw [e3_z g_z (by omega) (by omega) (by omega) (by omega), hc5, rI_ne (by omega), rI_nk n0_z, rI_ne (by omega)]
  have eg3 : gI M2_z g_z 3 = col := by rw [e3_z g_z (by omega) (by omega) (by omega) (by omega), hc5, rI_ne (by omega), rI_at]
  have e12' : gI M2_z c 12 = gI M c 12 := by rw [e4_z _ (by decide) (by decide), pr c (by omega) (by omega)]
  have e13' : gI M2_z c 13 = gI M c 13 + 1 := by rw [e5_z, pr c (by omega) (by omega)]
  have po : Pool M T' M2_z T4 c m := Pool.rows (fun a_z a0_z a1_z => er a_z (by omega) (by omega) (by omega) (by omega) (by omega) (by omega)) (kf' _ (by decide) (by decide) (by decide) (by decide)) (fun a_z a0_z a1_z => kr' a_z (by omega) (by omega) (by omega) (by omega) (by omega) (by omega) (by omega))
  obtain ⟨y1, y2, y3, y4, y5⟩ := q11_z
  rw [htp, hgg] at y4
  rw [htp] at y5
  refine ⟨by rw [e12']; exact htp, ⟨by rw [e12', y1, kf' 19 (by decide) (by decide) (by decide) (by decide)], by rw [e12']; exact y2, by rw [e12']; exact y3, ?_, fun t_z ht => ?_⟩, ?_, ?_⟩
  · rw [e12', htp, hgg]
    obtain ⟨h1, h2, h3, h4, h5, h6, h7⟩ := y4
    unfold GrR
    rw [eg3, eg 2 (by decide), eL, k6_z, er (g_z + 2) (by omega) (by omega) (by omega) (by omega) (by omega) (by omega)]
    refine ⟨fun i_z i0_z i1_z => ?_, upf_at _ _ _, hcol, ?_, h5, h6, fun i_z i0_z i1_z => ?_⟩
    · rw [upf_ne _ _ (by omega), upf_ne _ _ (by omega)]
      exact h1 i_z i0_z i1_z
    · rw [upf_ne _ _ (by omega)]
      exact h4
    · rw [upf_ne _ _ (by omega)]
      exact ClR.fr (h7 i_z i0_z i1_z) po
  · rw [e12', htp] at ht
    exact GrR.fr (y5 t_z ht) po (er _ (by omega) (by omega) (by omega) (by omega) (by omega) (by omega)) (by rw [eL]) (er _ (by omega) (by omega) (by omega) (by omega) (by omega) (by omega)) (fun k_z k0_z k1_z => by rw [kr' (m + 7) (by omega) (by omega) (by omega) (by omega) (by omega) (by omega) (by omega)])
  · exact PaR.rows q12_z (by omega) (fun a_z a0_z a1_z => er a_z (by omega) (by omega) (by omega) (by omega) (by omega) (by omega)) (fun j_z hj => kf' j_z (by omega) (by omega) (by omega) (by omega)) (fun a_z a0_z a1_z => kr' a_z (by omega) (by omega) (by omega) (by omega) (by omega) (by omega) (by omega))
  · exact ItR.fr q13_z po (fun a_z a0_z a1_z => er a_z (by omega) (by omega) (by omega) (by omega) (by omega) (by omega)) (kf' _ (by decide) (by decide) (by decide) (by decide)) (kr' _ (by omega) (by omega) (by omega) (by omega) (by omega) (by omega) (by omega))
theorem perf_color {tk : Int} (hs : ShMa M c) (ho : OpF G M) (hf : ShFr M r) (h_z : Call G J_Ma_setColor [a_r c, a_r r] M (fun q_z M2_z => ∃ e_z : Int, q_z = some (a_i e_z) ∧ Q (some (a_i e_z)) M2_z)) : At G 86 33 [a_r c, a_r (G.2 (3 + 12)), a_r r, a_i tk] [a_i ((12 : Nat) : Int), a_r (G.2 1)] M Q := by
  have hh : Call G J_Ma_setColor [a_r c, a_r r] M (fun q_z M2_z => At G 86 219 [a_r c, a_r (G.2 (3 + 12)), a_r r, a_i tk] q_z.toList M2_z Q) := Call.weak h_z (fun q_z M2_z hq => by
    obtain ⟨e_z, e1_z, e2_z⟩ := hq
    subst e1_z
    simp (disch := omega) only [B_86_219, inI, inL, isT, kInt, kByt, true_and, and_true, an_t, im_t, im_f, or_true, true_or, true_imp_iff, false_imp_iff, not_true_eq_false, not_false_eq_true, gK_uI, gK_uL, gK_uR, gK_uCI, gK_uCL, gN_uI, gN_uL, gN_uR, gN_uCI, gN_uCL, gR_uI, gR_uL, gR_uCI, gR_uCL, gI_uL, gI_uR, gI_uCL, gL_uI, gL_uR, gL_uCI, gz_uI, gz_uL, gz_uR, gz_uCI, gz_uCL, gs_uI, gs_uL, gs_uR, gs_uCI, gs_uCL, rI_at, rL_at, rR_at, rI_ne, rL_ne, rR_ne, rI_nk, rL_nk, rR_nk, rI_eq, rL_eq, rR_eq, Option.toList_some, Option.toList_none, List.cons_append, List.nil_append, List.append_nil, zc_eq, zc_lt, zc_le, zc_ge, zc_gt]
    exact e2_z)
  have sm_z := ho.1
  have s12 : gI M (G.2 1) 12 = 15 := sm_z.2.2 12 (by decide)
  rw [B_86_33]
  simp (disch := omega) only [sm_z.1, sm_z.2.1, s12, Int.cast_ofNat_Int, B_86_214, hs.1.u, inI, inL, isT, kInt, kByt, true_and, and_true, an_t, im_t, im_f, or_true, true_or, true_imp_iff, false_imp_iff, not_true_eq_false, not_false_eq_true, gK_uI, gK_uL, gK_uR, gK_uCI, gK_uCL, gN_uI, gN_uL, gN_uR, gN_uCI, gN_uCL, gR_uI, gR_uL, gR_uCI, gR_uCL, gI_uL, gI_uR, gI_uCL, gL_uI, gL_uR, gL_uCI, gz_uI, gz_uL, gz_uR, gz_uCI, gz_uCL, gs_uI, gs_uL, gs_uR, gs_uCI, gs_uCL, rI_at, rL_at, rR_at, rI_ne, rL_ne, rR_ne, rI_nk, rL_nk, rR_nk, rI_eq, rL_eq, rR_eq, Option.toList_some, Option.toList_none, List.cons_append, List.nil_append, List.append_nil, zc_eq, zc_lt, zc_le, zc_ge, zc_gt]
  all_goals exact hh
theorem op_color {E_z i_z x_z n_z tk : Int} {d_z p_z : Nat} (h_z : Rel G M T c s m E_z) (hd_z : gI M c 11 = (d_z : Int)) (hx : gI M (c + 22 + 4 * d_z) 4 = x_z - 1) (htk : gI M (c + 22 + 4 * d_z) 5 = tk) (hp : gR M (c + 22 + 4 * d_z) 3 = p_z) (hn : gI M p_z 3 = n_z) (hlt : tk < n_z) (hop : gR M (p_z + 1) tk = G.2 (3 + 12)) (i0_z : 0 ≤ i_z) (i1_z : i_z + 1 < 1000000) (hN_z : Nxt G c s m M E_z i_z Q) (hEr : Err G c s m M E_z Q) : HC G c s i_z M Q := by
  refine op_pre (k_z := 12) h_z hd_z hx htk hp hn hlt (by decide) (by decide) hop i0_z i1_z hEr (fun hb_z hw _ => ?_)
  have h0 := h_z
  obtain ⟨r1_z, r2, r3, ⟨r4, r5_z, r6, r7⟩, r8, r9, r10, r11, r12, r13, ⟨r14, r15, r16⟩, r17⟩ := h_z
  obtain ⟨g1, g2, g3_z, w0_z, w1_z, g6⟩ := h0.opn hd_z
  have nd : need ((12 : Nat) : Int) = 1 := by decide
  rw [nd] at hw
  have hs1 : ShMa (uI M (c + 22 + 4 * d_z) 5 (tk + 1)) c := r1_z
  have ho1 : OpF G (uI M (c + 22 + 4 * d_z) 5 (tk + 1)) := OpF.out r3 ((OutC.refl c M).uI _ _ (by omega)) r6 r4
  have f2_z : ShFr (uI M (c + 22 + 4 * d_z) 5 (tk + 1)) (c + 22 + 4 * d_z) := (r1_z.2.2.2.1 d_z g1).2
  have e13_z : gI (uI M (c + 22 + 4 * d_z) 5 (tk + 1)) c 13 = gI M c 13 := by rw [rI_ne (by omega)]
  have es6 : gI (uI M (c + 22 + 4 * d_z) 5 (tk + 1)) s 6 = gI M s 6 := by rw [rI_ne (by omega)]
  have ew : gI (uI M (c + 22 + 4 * d_z) 5 (tk + 1)) (c + 22 + 4 * d_z) 6 = gI M (c + 22 + 4 * d_z) 6 := by rw [rI_nk (by decide)]
  have hK4 : gK (uI M (c + 22 + 4 * d_z) 5 (tk + 1)) s = 4 := r8.1.1
  generalize hwd : gI M (c + 22 + 4 * d_z) 6 = w_z at *
  have hv1 : ∀ i_z, 0 ≤ i_z → i_z < w_z → NV (gL (uI M (c + 22 + 4 * d_z) 5 (tk + 1)) (c + 22 + 4 * d_z + 1) i_z) ∨ fd (gL (uI M (c + 22 + 4 * d_z) 5 (tk + 1)) (c + 22 + 4 * d_z + 1) i_z) = 0 := fun i_z i0_z i1_z => by
    rcases (g6 i_z i0_z i1_z).2.2 with q_z | q_z
    · exact Or.inl q_z
    · exact Or.inr q_z.1
  have hva := (g6 (w_z - 1) (by omega) (by omega)).2.2
  generalize hvv : gL M (c + 22 + 4 * d_z + 1) (w_z - 1) = va at *
  have hvv' : gL (uI M (c + 22 + 4 * d_z) 5 (tk + 1)) (c + 22 + 4 * d_z + 1) (w_z - 1) = va := hvv
  have oP := r11
  obtain ⟨oP1, oP2, oP3, -, -⟩ := oP
  generalize htp : gI M c 12 = tp at *
  generalize hgg : c + 42 + 3 * tp.toNat = g_z at *
  have gb : c + 42 ≤ g_z ∧ g_z + 2 < c + 147 := by omega
  -- what is found
  obtain ⟨v_z, hv, v0_z, v1_z, v2⟩ : ∃ v_z : Int, (fd va = 0 → CV M c s d_z (fu va) = v_z) ∧ 0 ≤ v_z ∧ v_z ≤ 205 ∧ (v_z / 100 = 1 → 0 ≤ v_z % 100 ∧ v_z % 100 ≤ 15) := by
    by_cases c0_z : fd va = 0
    · have nm : 0 ≤ fu va ∧ fu va ≤ 7 := by
        rcases hva with q_z | q_z
        · have := q_z.2.2.1
          omega
        · exact q_z.2
      have y_z := h0.lk hd_z nm.1 nm.2
      rw [← y_z.1] at y_z
      have y2 : CV M c s d_z (fu va) = 0 ∨ (100 ≤ CV M c s d_z (fu va) ∧ CV M c s d_z (fu va) ≤ 115) ∨ (200 ≤ CV M c s d_z (fu va) ∧ CV M c s d_z (fu va) ≤ 205) := y_z.2
      exact ⟨_, fun _ => rfl, by omega, by omega, fun _ => by omega⟩
    · exact ⟨0, fun q_z => absurd q_z c0_z, by decide, by decide, fun q_z => by omega⟩
  have nm : fd va = 0 → 0 ≤ fu va ∧ fu va ≤ 7 := fun c0_z => by
    rcases hva with q_z | q_z
    · have := q_z.2.2.1
      omega
    · exact q_z.2
  have goC : ∀ qq : Option AV → Mem → Prop, (fd va ≠ 0 → ¬ (fd va = 1 ∧ 0 ≤ fu va ∧ fu va ≤ 15) → qq (some (a_i 2)) (uI M (c + 22 + 4 * d_z) 5 (tk + 1))) → (fd va = 0 → v_z / 100 ≠ 1 → qq (some (a_i 3)) (uI M (c + 22 + 4 * d_z) 5 (tk + 1))) → (∀ col : Int, ((fd va = 0 ∧ v_z / 100 = 1 ∧ col = v_z % 100) ∨ (fd va = 1 ∧ 0 ≤ fu va ∧ fu va ≤ 15 ∧ col = fu va)) → qq (some (a_i 0)) (uI (uI (uI M (c + 22 + 4 * d_z) 5 (tk + 1)) g_z 3 col) (c + 22 + 4 * d_z) 6 (w_z - 1))) → Call G J_Ma_perform [a_r c, a_r (G.2 (3 + 12)), a_r (c + 22 + 4 * d_z), a_i tk] (uI M (c + 22 + 4 * d_z) 5 (tk + 1)) qq := fun qq q2_z q3_z q0 =>
    perf_go (k_z := 12) hs1 ho1 r5_z hK4 f2_z (by decide) (by rw [e13_z, es6]; exact hb_z) ew w0_z w1_z hv1 (by rw [nd]; exact hw) (fun q_z => absurd q_z (by decide)) (perf_color hs1 ho1 f2_z (X_setColor (va := va) (v_z := v_z) (tp := tp) (g_z := g_z) hs1 f2_z ew hw w1_z hvv' hva (by rw [rI_ne (by omega)]; exact htp) oP2 oP3 hgg (by omega) v0_z v1_z (fun c0_z q_z hq => X_lookFr h0 hd_z (nm c0_z).1 (nm c0_z).2 (by rw [hv c0_z]; exact hq)) (fun a_z b_z => ⟨2, rfl, q2_z a_z b_z⟩) (fun a_z b_z => ⟨3, rfl, q3_z a_z b_z⟩) (fun col hcol => ⟨0, rfl, q0 col hcol⟩)))
  have fnd : ∀ T', Rel G M T' c s m E_z → ∀ T3, ShM T3 m → gI T3 (m + 1) = gI T' (m + 1) → gI T3 (m + 17) = gI T' (m + 17) → gI T3 m 36 = gI T' m 36 → gI T3 (m + 19) = gI T' (m + 19) → gI T3 (m + 20) = gI T' (m + 20) → gI T3 (m + 21) = gI T' (m + 21) → ShM T' m ∧ gI T3 m 36 = (d_z : Int) ∧ gI T3 (m + 19) d_z = w_z ∧ gI T3 (m + 20) (16 * d_z + w_z - 1) = fu va ∧ gI T3 (m + 21) (16 * d_z + w_z - 1) = fd va ∧ (fd va = 0 → ∀ qq : Option AV → Mem → Prop, qq (some (a_i v_z)) T3 → Call G J_M_found [a_r m] T3 qq) ∧ gI T' m 49 ≠ gI T' (m + 1) 1215 := fun T' h' T3 t0_z t1_z t17 t36 t19 t20 t21 => by
    obtain ⟨k1_z, k2_z, k3_z, -, -, k6_z⟩ := h'.opn hd_z
    rw [hwd] at k3_z k6_z
    have o := k6_z (w_z - 1) (by omega) (by omega)
    rw [hvv, show (16 : Int) * d_z + (w_z - 1) = 16 * d_z + w_z - 1 from by omega] at o
    have hu : gI T3 (m + 20) (16 * d_z + w_z - 1) = fu va := by rw [t20]; exact o.1
    refine ⟨h'.2.1, t36.trans k2_z, by rw [t19]; exact k3_z, hu, by rw [t21]; exact o.2.1, fun c0_z qq hqq => Rel.found h' hd_z t0_z t1_z t17 (t36.trans k2_z) (by rw [t19]; exact k3_z) hw w1_z hu (nm c0_z).1 (nm c0_z).2 (by rw [hv c0_z]; exact hqq), ?_⟩
    obtain ⟨-, -, -, -, q8_z, q9_z, -⟩ := h'
    have := q9_z.1
    have := q8_z.2.2.2.2.2.2.1
    omega
  by_cases b2 : fd va ≠ 0 ∧ ¬ (fd va = 1 ∧ 0 ≤ fu va ∧ fu va ≤ 15)
  · refine op_err h0 hd_z hx htk hp hn hlt (by decide) (by decide) hop i0_z i1_z (e_z := 2) (by decide) hEr (fun qq hqq => goC qq (fun _ _ => hqq _ (Ex.refl _ _)) (fun q_z => absurd q_z b2.1) (fun col q_z => by omega)) (fun T' h' qq hqq => ?_)
    obtain ⟨f0_z, f1_z, f2_z, f3_z, f4_z, f5_z, f6_z⟩ := fnd T' h' T' h'.2.1 rfl rfl rfl rfl rfl rfl
    exact X_wrongC f0_z f6_z f1_z f2_z g1 hw w1_z f3_z f4_z v0_z v1_z f5_z (fun _ _ => hqq _ (Sy.refl _ _)) (fun q_z => absurd q_z b2.1) (fun q_z => by omega)
  · by_cases b3 : fd va = 0 ∧ v_z / 100 ≠ 1
    · refine op_err h0 hd_z hx htk hp hn hlt (by decide) (by decide) hop i0_z i1_z (e_z := 3) (by decide) hEr (fun qq hqq => goC qq (fun q_z => absurd b3.1 q_z) (fun _ _ => hqq _ (Ex.refl _ _)) (fun col q_z => by omega)) (fun T' h' qq hqq => ?_)
      obtain ⟨f0_z, f1_z, f2_z, f3_z, f4_z, f5_z, f6_z⟩ := fnd T' h' T' h'.2.1 rfl rfl rfl rfl rfl rfl
      exact X_wrongC f0_z f6_z f1_z f2_z g1 hw w1_z f3_z f4_z v0_z v1_z f5_z (fun q_z => absurd b3.1 q_z) (fun _ _ => hqq _ (Sy.refl _ _)) (fun q_z => by omega)
    · obtain ⟨col, hcol, hcb⟩ : ∃ col : Int, ((fd va = 0 ∧ v_z / 100 = 1 ∧ col = v_z % 100) ∨ (fd va = 1 ∧ 0 ≤ fu va ∧ fu va ≤ 15 ∧ col = fu va)) ∧ 0 ≤ col ∧ col ≤ 15 := by
        by_cases c0_z : fd va = 0
        · have c1_z : v_z / 100 = 1 := Classical.byContradiction (fun q_z => b3 ⟨c0_z, q_z⟩)
          exact ⟨_, Or.inl ⟨c0_z, c1_z, rfl⟩, v2 c1_z⟩
        · have c1_z : fd va = 1 ∧ 0 ≤ fu va ∧ fu va ≤ 15 := Classical.byContradiction (fun q_z => b2 ⟨c0_z, q_z⟩)
          exact ⟨_, Or.inr ⟨c1_z.1, c1_z.2.1, c1_z.2.2, rfl⟩, c1_z.2⟩
      have same_z : ∀ col' : Int, ((fd va = 0 ∧ v_z / 100 = 1 ∧ col' = v_z % 100) ∨ (fd va = 1 ∧ 0 ≤ fu va ∧ fu va ≤ 15 ∧ col' = fu va)) → col' = col := fun col' q_z => by omega
      refine op_run (w_z := w_z - 1) (P_z := fun Mp => Mp = uI (uI (uI M (c + 22 + 4 * d_z) 5 (tk + 1)) g_z 3 col) (c + 22 + 4 * d_z) 6 (w_z - 1)) (PT_z := fun T' T1 => T1 = uI T' m 16 0) h0 hd_z hx htk hp hn hlt (by decide) (by decide) hop i0_z i1_z hb_z hN_z (by omega) (by omega) (fun qq hqq => goC qq (fun a_z b_z => absurd ⟨a_z, b_z⟩ b2) (fun a_z b_z => absurd ⟨a_z, b_z⟩ b3) (fun col' q_z => by rw [same_z col' q_z]; exact hqq _ rfl)) (fun Mp hMp => ?_) (fun T' h' qq hqq => ?_) (fun Mp hMp T' h' T1 hy hPT T3 t3_z st_z hst hleg hpa qq hqq => ?_)
      · subst hMp
        have o1 : Ex (fun a_z => c ≤ a_z ∧ a_z < c + 147) M (uI (uI (uI M (c + 22 + 4 * d_z) 5 (tk + 1)) g_z 3 col) (c + 22 + 4 * d_z) 6 (w_z - 1)) := (((Ex.refl _ M).uI _ _ (by omega)).uI _ _ (by omega)).uI _ _ (by omega)
        refine ⟨r1_z, rfl, o1.outC (fun r hr => hr), fun a_z a0_z a1_z a2 => ⟨?_, rfl⟩, fun a_z a0_z a1_z => ?_, fun j_z hj => ?_, ?_, ?_, ?_, ?_⟩
        · rw [rI_ne (by omega), rI_ne (by omega), rI_ne a2]
        · rw [rI_ne (by omega), rI_ne (by omega), rI_ne (by omega)]
        · rw [rI_ne (by omega), rI_ne (by omega), rI_ne (by omega)]
        · rw [rI_nk (by decide), rI_ne (by omega), rI_nk (by decide)]
        · rw [rI_nk (by decide), rI_ne (by omega), rI_at]
        · rw [rI_at]
        · rw [rI_nk (by decide), rI_ne (by omega), rI_nk (by decide)]
      · obtain ⟨f0_z, f1_z, f2_z, f3_z, f4_z, f5_z, f6_z⟩ := fnd T' h' T' h'.2.1 rfl rfl rfl rfl rfl rfl
        exact X_wrongC f0_z f6_z f1_z f2_z g1 hw w1_z f3_z f4_z v0_z v1_z f5_z (fun a_z b_z => absurd ⟨a_z, b_z⟩ b2) (fun a_z b_z => absurd ⟨a_z, b_z⟩ b3) (fun q_z => hqq _ (sy_fl0 _ _) rfl)
      · have t3' := t3_z
        obtain ⟨t1_z, t2_z, t4_z, t5_z, t6⟩ := t3'
        obtain ⟨f0_z, f1_z, f2_z, f3_z, f4_z, f5_z, f6_z⟩ := fnd T' h' T3 t1_z (t2_z _ (by omega) (by omega) (by omega) (by omega) (by omega)) (t2_z _ (by omega) (by omega) (by omega) (by omega) (by omega)) (t4_z _ (by decide) (by decide) (by decide) (by decide)) (t2_z _ (by omega) (by omega) (by omega) (by omega) (by omega)) (t2_z _ (by omega) (by omega) (by omega) (by omega) (by omega)) (t2_z _ (by omega) (by omega) (by omega) (by omega) (by omega))
        refine X_doesCol t1_z f1_z f2_z g1 hw w1_z f3_z f4_z v0_z v1_z f5_z hcol ?_
        obtain ⟨-, -, -, -, -, -, -, q11_z, q12_z, q13_z, -⟩ := h'
        obtain ⟨l1, l2, l3⟩ := fin_color hMp hcb htp hgg t3_z g1 rfl q11_z q12_z q13_z
        have est : stepF ((12 : Nat) : Int) tk.toNat st_z = st_z := by
          unfold stepF
          rw [if_neg (by decide), if_neg (by decide), if_neg (by decide), if_neg (by decide), if_neg (by decide)]
        refine hqq _ l1 (fun v_z f_z q_z => ?_) ?_ (fun M2_z hc_z => ?_)
        · rw [est]
          exact q_z
        · rw [est, l2]
          exact hpa
        · obtain ⟨a1_z, a2⟩ := l3 M2_z hc_z
          refine ⟨?_, a2⟩
          rw [a1_z, est]
          omega
end AS
