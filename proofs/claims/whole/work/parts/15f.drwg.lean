/-! THE PURE PART, part 15: the relation once a form has begun, done. Own work. -/
section BA
variable {G : Env0} {M T : Mem} {c s m : Nat}
theorem fin_draw {Mp M2_z T' T1 T3 K_z K' T5 : Mem} {d_z g_z p_z : Nat} {E_z x_z len_z tk w_z tp dp f_z e_z kk n_z p' L_z : Int} {X_z Y : Int → Int} (h' : Rel G M T' c s m E_z) (hd_z : gI M c 11 = (d_z : Int)) (d4_z : d_z < 4) (htk : gI M (c + 22 + 4 * d_z) 5 = tk) (hw : w_z ≤ gI M (c + 22 + 4 * d_z) 6) (w0_z : 1 ≤ w_z) (htp : gI M c 12 = tp) (tp1 : tp + 1 < 35) (hgg : c + 42 + 3 * tp.toNat = g_z) (hdp : gI M c 14 = dp) (f0_z : 0 ≤ f_z) (f1_z : f_z ≤ 5) (hpg : gR M (s + 1) (f_z + 1) = p_z) (b13 : gI M c 13 < gI M s 6)
    (hee : gI M (c + 4) 5 = e_z) (hkk : gI M (c + 4) 6 = kk) (hnn_z : gI M g_z 2 = n_z) (h25 : gI T' m 25 = 0) (hp33 : gI T' m 33 = p')
    (hx : gI T' (m + 17) d_z = x_z) (hln : lnm T' m x_z = len_z) (hlt : tk < len_z) (hL0 : 0 ≤ L_z) (hL : lnm T' m (f_z + 1) = L_z) (hsc : scan (cdm T' m x_z) (tk.toNat + 1) = scan (cdm T' m x_z) tk.toNat) (hfa : (scan (cdm T' m x_z) tk.toNat).2 = false)
    (hM_z : DrM M Mp c d_z g_z tk w_z tp dp f_z p_z) (hc_z : Cnt Mp M2_z c) (hkz : gK M2_z = gK Mp ∧ gN M2_z = gN Mp ∧ gz M2_z = gz Mp ∧ gs M2_z = gs Mp) (htr : TrR M2_z T5 c m) (h15 : gI M2_z c 15 = 0)
    (t3_z : Tr3 T' T1 T3 m) (hK_z : Ex (fun r_z => r_z = m ∨ r_z = m + 7) (uI T3 (m + 19) d_z (w_z - 1)) K_z) (kf : ∀ j_z, j_z ≠ 19 → gI K_z m j_z = gI T3 m j_z) (k19 : gI K_z m 19 = tp + 1) (k7_z : gI K_z (m + 7) = rc (gI T' (m + 7)) (20 * tp) (gI T' (m + 6)) 0 20) (h5 : T5 = uI (bgM K' m d_z f_z dp) (m + 18) ((d_z : Int) + 1) (-1 + 1)) (hs5 : ShM T5 m)
    (hcase : (DrN M Mp c g_z ∧ K' = K_z) ∨ (DrB M Mp c g_z e_z kk n_z X_z Y ∧ BxT K_z K' m p' n_z ∧ n_z < 6 ∧ (∀ k_z, 0 ≤ k_z → k_z < 4 → gI T1 (m + 27) k_z = X_z k_z ∧ gI T1 (m + 28) k_z = Y k_z) ∧ (∀ j_z, 0 ≤ j_z → j_z < 4 → (X_z j_z).natAbs ≤ 16000) ∧ (∀ j_z, 0 ≤ j_z → j_z < 4 → (Y j_z).natAbs ≤ 16000))) : Rel G M2_z T5 c s m (E_z - 2500 + L_z) := by
  have h0 := h'
  obtain ⟨q1_z, q2_z, q3_z, ⟨q4_z, q5_z, q6_z, q7_z⟩, q8_z, q9_z, q10_z, q11_z, q12_z, q13_z, ⟨q14_z, q15_z, q16_z⟩, q17_z⟩ := h'
  obtain ⟨t1_z, t2_z, t4_z, t5_z, t6⟩ := t3_z
  obtain ⟨c1_z, c2_z, c3_z, c4_z, c5_z⟩ := hc_z
  obtain ⟨⟨m1_z, m2_z, m3_z, m4_z⟩, m5_z, m6_z, m7_z, m8_z, m9_z, ⟨m10_z, m11_z, m12_z, m13⟩, ⟨m14, m15, m16⟩, ⟨m17, m18, m19, m20⟩, m21⟩ := hM_z
  have tp0 : 0 ≤ tp := by
    have := q11_z.2.1
    omega
  have hK2 : gK M2_z = gK M := hkz.1.trans m1_z
  have hN2 : gN M2_z = gN M := hkz.2.1.trans m2_z
  have hz2 : gz M2_z = gz M := hkz.2.2.1.trans m3_z
  have hss2 : gs M2_z = gs M := hkz.2.2.2.trans m4_z
  have gb : c + 42 ≤ g_z ∧ g_z + 5 < c + 147 := by omega
  -- the model's rows
  have kr : ∀ a_z, a_z ≠ m → a_z ≠ m + 7 → a_z ≠ m + 19 → gI K_z a_z = gI T3 a_z := fun a_z n0_z n1_z n2_z => by rw [(hK_z.2.2.2.2.2 a_z (by omega)).1, rI_ne n2_z]
  have kr19 : gI K_z (m + 19) = upf (gI T' (m + 19)) d_z (w_z - 1) := by rw [(hK_z.2.2.2.2.2 (m + 19) (by omega)).1, rI_row, t2_z _ (by omega) (by omega) (by omega) (by omega) (by omega)]
  have kr' : ∀ a_z, a_z ≠ m → a_z ≠ m + 7 → a_z ≠ m + 19 → a_z ≠ m + 25 → a_z ≠ m + 26 → a_z ≠ m + 27 → a_z ≠ m + 28 → gI K_z a_z = gI T' a_z := fun a_z n0_z n1_z n2_z n3_z n4_z n5_z n6_z => by rw [kr a_z n0_z n1_z n2_z, t2_z a_z n0_z n3_z n4_z n5_z n6_z]
  have kf' : ∀ j_z, j_z ≠ 19 → j_z ≠ 49 → j_z ≠ 16 → j_z ≠ 20 → j_z ≠ 21 → gI K_z m j_z = gI T' m j_z := fun j_z n0_z n1_z n2_z n3_z n4_z => by rw [kf j_z n0_z, t4_z j_z n1_z n2_z n3_z n4_z]
  obtain ⟨z1, z2, z3, z4, z5, z6, z7, z8⟩ := bgM_f T5 h5
  have both_z : (∀ a_z, a_z ≠ m → a_z ≠ m + 6 → ¬ (m + 8 ≤ a_z ∧ a_z ≤ m + 15) → gI K' a_z = gI K_z a_z) ∧ (∀ j_z, j_z ≠ 25 → j_z ≠ 26 → j_z ≠ 27 → j_z ≠ 33 → gI K' m j_z = gI K_z m j_z) ∧ gI K' m 25 = 0 := by
    rcases hcase with ⟨-, e1_z⟩ | ⟨-, e1_z, -⟩
    · subst e1_z
      exact ⟨fun _ _ _ _ => rfl, fun _ _ _ _ _ => rfl, by rw [kf' 25 (by decide) (by decide) (by decide) (by decide) (by decide)]; exact h25⟩
    · exact ⟨fun a_z n0_z n1_z n2_z => (e1_z.1.2.2.2.2.2 a_z (by omega)).1, e1_z.2.1, e1_z.2.2.1.1⟩
  obtain ⟨w1_z, w2_z, w3_z⟩ := both_z
  have row_z : ∀ a_z, a_z ≠ m → a_z ≠ m + 6 → a_z ≠ m + 7 → ¬ (m + 8 ≤ a_z ∧ a_z ≤ m + 15) → a_z ≠ m + 17 → a_z ≠ m + 18 → a_z ≠ m + 19 → a_z ≠ m + 22 → a_z ≠ m + 25 → a_z ≠ m + 26 → a_z ≠ m + 27 → a_z ≠ m + 28 → gI T5 a_z = gI T' a_z := fun a_z n0_z n1_z n2_z n3_z n4_z n5_z n6_z n7 n8 n9 n10 n11 => by rw [z1 a_z n0_z n4_z n5_z n6_z n7, w1_z a_z n0_z n1_z n3_z, kr' a_z n0_z n2_z n6_z n8 n9 n10 n11]
  have fld : ∀ j_z, j_z ≠ 36 → j_z ≠ 50 → j_z ≠ 25 → j_z ≠ 26 → j_z ≠ 27 → j_z ≠ 33 → j_z ≠ 19 → j_z ≠ 49 → j_z ≠ 16 → j_z ≠ 20 → j_z ≠ 21 → gI T5 m j_z = gI T' m j_z := fun j_z n0_z n1_z n2_z n3_z n4_z n5_z n6_z n7 n8 n9 n10 => by rw [z2 j_z n0_z n1_z, w2_z j_z n2_z n3_z n4_z n5_z, kf' j_z n6_z n7 n8 n9 n10]
  have t17 : gI T5 (m + 17) = upf (gI T' (m + 17)) ((d_z : Int) + 1) (f_z + 1) := by rw [z5, w1_z _ (by omega) (by omega) (by omega), kr' _ (by omega) (by omega) (by omega) (by omega) (by omega) (by omega) (by omega)]
  have t18 : gI T5 (m + 18) = upf (gI T' (m + 18)) ((d_z : Int) + 1) 0 := by rw [z6, w1_z _ (by omega) (by omega) (by omega), kr' _ (by omega) (by omega) (by omega) (by omega) (by omega) (by omega) (by omega)]
  have t19 : gI T5 (m + 19) = upf (upf (gI T' (m + 19)) d_z (w_z - 1)) ((d_z : Int) + 1) 0 := by rw [z7, w1_z _ (by omega) (by omega) (by omega), kr19]
  have t22 : gI T5 (m + 22) = upf (gI T' (m + 22)) ((d_z : Int) + 1) 0 := by rw [z8, w1_z _ (by omega) (by omega) (by omega), kr' _ (by omega) (by omega) (by omega) (by omega) (by omega) (by omega) (by omega)]
  have t7 : gI T5 (m + 7) = rc (gI T' (m + 7)) (20 * tp) (gI T' (m + 6)) 0 20 := by rw [z1 _ (by omega) (by omega) (by omega) (by omega) (by omega), w1_z _ (by omega) (by omega) (by omega), k7_z]
  have t25 : gI T5 m 25 = 0 := by rw [z2 25 (by decide) (by decide)]; exact w3_z
  have f19 : gI T5 m 19 = tp + 1 := by rw [z2 19 (by decide) (by decide), w2_z 19 (by decide) (by decide) (by decide) (by decide), k19]
  -- the class's rows
  have eR : ∀ (a_z : Nat) (j_z : Int), ¬ (a_z = c + 22 + 4 * (d_z + 1) ∧ j_z = 3) → gR M2_z a_z j_z = gR M a_z j_z := fun a_z j_z n0_z => by rw [c2_z]; exact m5_z a_z j_z n0_z
  have eL : ∀ a_z, a_z ≠ g_z + 4 → a_z ≠ c + 21 → gL M2_z a_z = gL M a_z := fun a_z n0_z n1_z => by rw [c1_z]; exact m7_z a_z n0_z n1_z
  have er : ∀ a_z, a_z ≠ c → ¬ (c + 4 ≤ a_z ∧ a_z < c + 10) → ¬ (c + 17 ≤ a_z ∧ a_z < c + 22) → a_z ≠ c + 22 + 4 * d_z → a_z ≠ c + 22 + 4 * (d_z + 1) → a_z ≠ g_z + 3 → a_z ≠ g_z + 5 → gI M2_z a_z = gI M a_z := fun a_z n0_z n1_z n2_z n3_z n4_z n5_z n6_z => by rw [c3_z a_z n0_z (by omega) (by omega) (by omega), m9_z a_z n0_z n1_z (by omega) n3_z n4_z n5_z n6_z]
  have ec : ∀ j_z, j_z ≠ 13 → j_z ≠ 15 → gI M2_z c j_z = gI Mp c j_z := c4_z
  have e13_z : gI M2_z c 13 = gI M c 13 + 1 := by rw [c5_z, m10_z 13 (by decide) (by decide) (by decide)]
  have e12_z : gI M2_z c 12 = tp + 1 := by rw [ec 12 (by decide) (by decide), m12_z]
  have e11_z : gI M2_z c 11 = (d_z : Int) + 1 := by rw [ec 11 (by decide) (by decide), m11_z]
  have e14_z : gI M2_z c 14 = (if (d_z : Int) + 1 ≤ dp then dp else (d_z : Int) + 1) := by rw [ec 14 (by decide) (by decide), m13]
  have eq3_z : ∀ a_z, c + 1 ≤ a_z → (a_z < c + 17 ∨ c + 20 ≤ a_z) → gI M2_z a_z = gI Mp a_z := fun a_z n0_z n1_z => c3_z a_z (by omega) (by omega) (by omega) (by omega)
  have e50 : gI T5 m 50 = gI M2_z c 14 := by rw [z4, e14_z]
  -- shapes
  have hs2 : ShMa M2_z c := by
    refine q1_z.congr ?_ ?_ (fun a_z j_z a0_z n0_z => eR a_z j_z (by omega))
    · exact hK2
    · exact hN2
  have oo : OutC c M M2_z := by
    refine ⟨hK2, hN2, hz2, hss2, fun r_z hr => ⟨?_, eL r_z (by omega) (by omega), ?_⟩⟩
    · rw [c3_z r_z (by omega) (by omega) (by omega) (by omega), m9_z r_z (by omega) (by omega) (by omega) (by omega) (by omega) (by omega) (by omega)]
    · funext j_z
      exact eR r_z j_z (by omega)
  -- the pool_z and the state on top_z
  have top_z := q11_z.2.2.2.1
  rw [htp, hgg] at top_z
  have pool_z : Pool M T' M2_z T5 c m ∧ PaR M2_z T5 c m ∧ GrR M2_z T5 c m (g_z + 3) (gI T5 (m + 6)) := by
    rcases hcase with ⟨⟨a1_z, a2, a3⟩, e1_z⟩ | ⟨hB_z, hT_z, n6_z, hXY, bX_z, bY⟩
    · subst e1_z
      have po : Pool M T' M2_z T5 c m := Pool.rows (fun a_z a0_z a1' => by rw [eq3_z a_z (by omega) (by omega), a1_z a_z a0_z a1']) (by rw [z2 33 (by decide) (by decide), kf' 33 (by decide) (by decide) (by decide) (by decide) (by decide)]) (fun a_z a0_z a1' => by rw [z1 a_z (by omega) (by omega) (by omega) (by omega) (by omega), kr' a_z (by omega) (by omega) (by omega) (by omega) (by omega) (by omega) (by omega)])
      refine ⟨po, PaR.rows q12_z (by omega) (fun a_z a0_z a1' => by rw [eq3_z a_z (by omega) (by omega), a1_z a_z a0_z a1']) (fun j_z hj => by rw [z2 j_z (by omega) (by omega), kf' j_z (by omega) (by omega) (by omega) (by omega) (by omega)]) (fun a_z a0_z a1' => by rw [z1 a_z (by omega) (by omega) (by omega) (by omega) (by omega), kr' a_z (by omega) (by omega) (by omega) (by omega) (by omega) (by omega) (by omega)]), ?_⟩
      refine GrR.copy top_z po (fun i_z i0_z i1_z => by rw [c1_z]; exact m8_z i_z i0_z i1_z) (by rw [eq3_z _ (by omega) (by omega), a2]) (by rw [eq3_z _ (by omega) (by omega), m21]) (fun i_z i0_z i1_z => by rw [eq3_z _ (by omega) (by omega)]; exact a3 i_z i0_z i1_z) (fun k_z _ _ => ?_)
      rw [z1 _ (by omega) (by omega) (by omega) (by omega) (by omega), kr' _ (by omega) (by omega) (by omega) (by omega) (by omega) (by omega) (by omega)]
    · have hT0 := hT_z
      obtain ⟨b1, b2, ⟨b25, b26, b27, b33⟩, b4, b7, b8, b6⟩ := hT0
      have hT' : BxT K_z T5 m p' n_z ∨ True := Or.inr trivial
      have fz : ∀ a_z, m + 8 ≤ a_z → a_z ≤ m + 15 → gI T5 a_z = gI K' a_z := fun a_z a0_z a1_z => z1 a_z (by omega) (by omega) (by omega) (by omega) (by omega)
      obtain ⟨pa, pb, pc, pd⟩ := fin_pool (M := M) (M2_z := M2_z) (T' := T') (T5 := K') hB_z (fun a_z a0_z a1_z => eq3_z a_z (by omega) (by omega)) hT_z (fun a_z a0_z a1_z => kr' a_z (by omega) (by omega) (by omega) (by omega) (by omega) (by omega) (by omega)) (fun k_z k0_z k1_z => by rw [kr _ (by omega) (by omega) (by omega), kr _ (by omega) (by omega) (by omega), t5_z _ (by omega) (by omega), t5_z _ (by omega) (by omega)]; exact hXY k_z k0_z k1_z) bX_z bY q12_z hee hkk hp33 h25
      have p2_z : Pool M2_z K' M2_z T5 c m := Pool.same rfl rfl rfl rfl rfl rfl rfl (z2 33 (by decide) (by decide)) (fz _ (by omega) (by omega)) (fz _ (by omega) (by omega)) (fz _ (by omega) (by omega)) (fz _ (by omega) (by omega)) (fz _ (by omega) (by omega))
      have po : Pool M T' M2_z T5 c m := by
        obtain ⟨y1, y2, y3, y4, y5, y6, y7, y8⟩ := pa
        exact ⟨y1, by rw [z2 33 (by decide) (by decide)]; exact y2, y3, y4, y5, y6, fun q_z q0 q1_z => by rw [fz _ (by omega) (by omega), fz _ (by omega) (by omega)]; exact y7 q_z q0 q1_z, fun i_z i0_z i1_z => by rw [fz _ (by omega) (by omega), fz _ (by omega) (by omega), fz _ (by omega) (by omega)]; exact y8 i_z i0_z i1_z⟩
      have pt : PthR M2_z T5 c m e_z p' := PthR.fr pb p2_z
      obtain ⟨⟨a5, a6, a7⟩, -, -, -, a11, a12, a13, a14⟩ := hB_z
      refine ⟨po, PaR.none2 q12_z hee hkk e13_z (by rw [eq3_z _ (by omega) (by omega)]; exact a5) (by rw [eq3_z _ (by omega) (by omega)]; exact a6) (by rw [eq3_z _ (by omega) (by omega)]; exact a7) (by rw [eq3_z _ (by omega) (by omega), a11, upf_at]) (by rw [eq3_z _ (by omega) (by omega), a12, upf_at]) (by rw [z2 33 (by decide) (by decide), b33, hp33]) t25 (by rw [z2 26 (by decide) (by decide)]; exact b26) (by rw [z2 27 (by decide) (by decide)]; exact b27), ?_⟩
      obtain ⟨h1, h2, h3, h4, h5', h6, h7⟩ := top_z
      rw [hnn_z] at h4 h5' h6 h7
      have r6 : gI T5 (m + 6) = upf (upf (gI T' (m + 6)) (14 + n_z) (2 * p')) 13 (n_z + 1) := by
        rw [z1 _ (by omega) (by omega) (by omega) (by omega) (by omega), b6, kr' _ (by omega) (by omega) (by omega) (by omega) (by omega) (by omega) (by omega)]
      have p0_z : 0 ≤ p' := by
        have := q12_z.2.2.1.1
        omega
      have e0_z : 0 ≤ e_z := by
        have := q12_z.1.1
        omega
      have e8 : gI M (c + 9) e_z = 0 ∨ gI M (c + 9) e_z = 1 := by
        have := q12_z.2.2.2.2.2.2.2
        rw [hee] at this
        exact this
      have m8e : gI M2_z (c + 9) e_z = gI M (c + 9) e_z := by rw [eq3_z _ (by omega) (by omega), a12, upf_ne _ _ (by omega)]
      unfold GrR
      rw [r6, eq3_z (g_z + 3) (by omega) (by omega), eq3_z (g_z + 3 + 2) (by omega) (by omega), c1_z, a13, m21]
      refine ⟨fun i_z i0_z i1_z => ?_, ?_, h3, ?_, by omega, by omega, fun i_z i0_z i1_z => ?_⟩
      · rw [upf_ne _ _ (by omega), upf_ne _ _ (by omega), upf_ne _ _ (by omega), upf_ne _ _ (by omega), m8_z i_z i0_z i1_z]
        exact h1 i_z i0_z i1_z
      · rw [upf_ne _ _ (by omega), upf_ne _ _ (by omega)]
        exact h2
      · rw [upf_at]
      · rw [a14 i_z i0_z (by omega), upf_ne _ (n_z + 1) (by omega)]
        by_cases ci : i_z = n_z
        · subst ci
          rw [if_pos rfl, upf_at]
          have ev_z : (2 * p') / 2 = p' := by omega
          unfold ClR
          rw [ev_z, m8e]
          refine ⟨by omega, pt, e8, Or.inr ⟨pd, ?_⟩⟩
          rw [fz _ (by omega) (by omega)]
          exact pc
        · rw [if_neg ci, upf_ne _ _ (by omega)]
          exact ClR.fr (h7 i_z i0_z (by omega)) po
  obtain ⟨po, hpa, hgr⟩ := pool_z
  refine Rel.mk h0 hs2 hs5 oo (eR c 9 (by omega)) (row_z _ (by omega) (by omega) (by omega) (by omega) (by omega) (by omega) (by omega) (by omega) (by omega) (by omega) (by omega) (by omega)) htr ?_ ?_ hpa ?_ ?_ h15 ?_ (by omega)
  · refine FrR.push (x_z := x_z) (n_z := len_z) (tk := tk) (w_z := w_z - 1) (f_z := f_z) q10_z hd_z d4_z e11_z z3 ?_ (fun l hl => eR _ 3 (by omega)) (fun r_z r0 r1_z => ⟨er r_z (by omega) (by omega) (by omega) (by omega) (by omega) (by omega) (by omega), eL r_z (by omega) (by omega)⟩) (by rw [eq3_z _ (by omega) (by omega)]; exact m14 4 (by decide) (by decide)) htk (by rw [eq3_z _ (by omega) (by omega)]; exact m15) (by rw [eq3_z _ (by omega) (by omega)]; exact m16) (by omega) (by omega) (by rw [eq3_z _ (by omega) (by omega)]; exact m14 7 (by decide) (by decide)) (eL _ (by omega) (by omega)) (er _ (by omega) (by omega) (by omega) (by omega) (by omega) (by omega) (by omega)) (er _ (by omega) (by omega) (by omega) (by omega) (by omega) (by omega) (by omega)) (by rw [eq3_z _ (by omega) (by omega)]; exact m17) (by rw [eq3_z _ (by omega) (by omega)]; exact m18) (by rw [eq3_z _ (by omega) (by omega)]; exact m19) (by rw [eq3_z _ (by omega) (by omega)]; exact m20) (by rw [c2_z, m6_z, hpg]) (row_z _ (by omega) (by omega) (by omega) (by omega) (by omega) (by omega) (by omega) (by omega) (by omega) (by omega) (by omega) (by omega)) t17 t18 t19 (row_z _ (by omega) (by omega) (by omega) (by omega) (by omega) (by omega) (by omega) (by omega) (by omega) (by omega) (by omega) (by omega)) (row_z _ (by omega) (by omega) (by omega) (by omega) (by omega) (by omega) (by omega) (by omega) (by omega) (by omega) (by omega) (by omega)) t22 (row_z _ (by omega) (by omega) (by omega) (by omega) (by omega) (by omega) (by omega) (by omega) (by omega) (by omega) (by omega) (by omega)) (row_z _ (by omega) (by omega) (by omega) (by omega) (by omega) (by omega) (by omega) (by omega) (by omega) (by omega) (by omega) (by omega)) hx hln hlt f0_z f1_z (by rw [hL]; exact hL0) hsc hfa (by rw [e12_z, htp]) t25 (by rw [hL]; omega)
    funext j_z
    exact eR (s + 1) j_z (by omega)
  · -- the graphics states
    obtain ⟨gs1, -, -, -, gs5⟩ := q11_z
    rw [htp] at gs1 gs5
    refine ⟨by rw [e12_z, f19], by omega, by omega, ?_, fun t_z ht => ?_⟩
    · rw [e12_z, show c + 42 + 3 * (tp + 1).toNat = g_z + 3 from by omega]
      exact hgr
    · rw [e12_z] at ht
      rw [t7]
      by_cases ct : (t_z : Int) = tp
      · have et : c + 42 + 3 * t_z = g_z := by omega
        rw [et, ct]
        exact GrR.fr top_z po (er _ (by omega) (by omega) (by omega) (by omega) (by omega) (by omega) (by omega)) (eL _ (by omega) (by omega)) (er _ (by omega) (by omega) (by omega) (by omega) (by omega) (by omega) (by omega)) (fun k_z k0_z k1_z => by rw [rc_in _ _ (by omega), show (0 : Int) + (20 * tp + k_z - 20 * tp) = k_z from by omega])
      · exact GrR.fr (gs5 t_z (by omega)) po (er _ (by omega) (by omega) (by omega) (by omega) (by omega) (by omega) (by omega)) (eL _ (by omega) (by omega)) (er _ (by omega) (by omega) (by omega) (by omega) (by omega) (by omega) (by omega)) (fun k_z k0_z k1_z => by rw [rc_out _ _ (by omega)])
  · exact ItR.fr q13_z po (fun a_z a0_z a1_z => by rw [eq3_z a_z (by omega) (by omega), m9_z a_z (by omega) (by omega) (by omega) (by omega) (by omega) (by omega) (by omega)]) (fld 35 (by decide) (by decide) (by decide) (by decide) (by decide) (by decide) (by decide) (by decide) (by decide) (by decide) (by decide)) (row_z _ (by omega) (by omega) (by omega) (by omega) (by omega) (by omega) (by omega) (by omega) (by omega) (by omega) (by omega) (by omega))
  · exact e50.symm
  · rw [fld 46 (by decide) (by decide) (by decide) (by decide) (by decide) (by decide) (by decide) (by decide) (by decide) (by decide) (by decide)]
    exact q16_z
end BA
