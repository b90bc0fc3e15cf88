/-! THE PURE PART, part 15: draw, done. Own work. -/
section BD
variable {G : Env0} {Q : Option AV → Mem → Prop} {M T : Mem} {c s m r : Nat}
theorem DwP.out {Mp : Mem} {d_z g_z p_z : Nat} {x_z tk w_z tp dp f_z hb_z e_z kk n_z : Int} {X_z Y : Int → Int} (h_z : DwP M Mp c d_z g_z tk w_z tp dp f_z p_z hb_z e_z kk n_z X_z Y) (hs : ShMa M c) (d4_z : d_z < 4) (hg : c + 42 ≤ g_z ∧ g_z + 5 < c + 147) (hx : gI M (c + 22 + 4 * d_z) 4 = x_z - 1) : ShMa Mp c ∧ gI Mp (c + 22 + 4 * d_z) 4 = x_z - 1 ∧ gI Mp c 13 = gI M c 13 ∧ OutC c M Mp := by
  obtain ⟨⟨⟨m1_z, m2_z, m3_z, m4_z⟩, m5_z, m6_z, m7_z, m8_z, m9_z, ⟨m10_z, m11_z, m12_z, m13⟩, ⟨m14, m15, m16⟩, -, m21⟩, -⟩ := h_z
  refine ⟨hs.congr m1_z m2_z (fun a_z j_z a0_z n0_z => m5_z a_z j_z (by omega)), by rw [m14 4 (by decide) (by decide)]; exact hx, m10_z 13 (by decide) (by decide) (by decide), m1_z, m2_z, m3_z, m4_z, fun r hr => ⟨m9_z r (by omega) (by omega) (by omega) (by omega) (by omega) (by omega) (by omega), m7_z r (by omega) (by omega), ?_⟩⟩
  funext j_z
  exact m5_z r j_z (by omega)
/-- the model draws, and both sides are related again -/
theorem drw_D {E_z x_z n_z tk : Int} {d_z p_z g_z pf : Nat} {va v_z w_z tp dp f_z bf e_z kk nc b0 b1 b2 b3 : Int} {Mp T' T1 : Mem} {qq : Option AV → Mem → Prop} (h' : Rel G M T' c s m E_z) (hd_z : gI M c 11 = (d_z : Int)) (d4_z : d_z < 4) (hx : gI M (c + 22 + 4 * d_z) 4 = x_z - 1) (htk : gI M (c + 22 + 4 * d_z) 5 = tk) (hp : gR M (c + 22 + 4 * d_z) 3 = p_z) (hn : gI M p_z 3 = n_z) (hlt : tk < n_z) (hop : gR M (p_z + 1) tk = G.2 (3 + 13)) (hb_z : gI M c 13 < gI M s 6) (hwd : gI M (c + 22 + 4 * d_z) 6 = w_z) (w0_z : 1 ≤ w_z) (w1_z : w_z ≤ 16) (hvv : gL M (c + 22 + 4 * d_z + 1) (w_z - 1) = va) (hnm : 0 ≤ fu va ∧ fu va ≤ 7) (htp : gI M c 12 = tp) (tp1 : tp + 1 < 35) (hgg : c + 42 + 3 * tp.toNat = g_z) (hdp : gI M c 14 = dp) (hv : CV M c s d_z (fu va) = v_z) (hvf : v_z = 200 + f_z) (f0_z : 0 ≤ f_z) (f1_z : f_z ≤ 5) (hpf : gR M (s + 1) (f_z + 1) = pf) (hpf0 : pf ≠ 0) (hee : gI M (c + 4) 5 = e_z) (hkk : gI M (c + 4) 6 = kk) (hnn_z : gI M g_z 2 = nc) (nc0 : 0 ≤ nc) (hhb : gI M (s + 2) f_z = bf) (bf01 : bf = 0 ∨ bf = 1) (hq0 : gI M (s + 3) (f_z * 4 + 0) = b0) (hq1 : gI M (s + 3) (f_z * 4 + 1) = b1) (hq2 : gI M (s + 3) (f_z * 4 + 2) = b2) (hq3 : gI M (s + 3) (f_z * 4 + 3) = b3) (gd_z : bf ≠ 0 → nc < 6 ∧ rGood (gL M (g_z + 1)) (pk b0 1) (pk b1 1) (pk b2 1) (pk b3 1))
    (hMp : DwP M Mp c d_z g_z tk w_z tp dp f_z pf bf e_z kk nc (fun j_z => dv (gL M (g_z + 1)) (pX (pk b0 1) (pk b2 1) j_z) (pY (pk b1 1) (pk b3 1) j_z) 0) (fun j_z => dv (gL M (g_z + 1)) (pX (pk b0 1) (pk b2 1) j_z) (pY (pk b1 1) (pk b3 1) j_z) 1)) (hy : Sy T' T1 m) (hPT : bf ≠ 0 → ∀ k_z, 0 ≤ k_z → k_z < 4 → gI T1 (m + 27) k_z = dv (gL M (g_z + 1)) (pX (pk b0 1) (pk b2 1) k_z) (pY (pk b1 1) (pk b3 1) k_z) 0 ∧ gI T1 (m + 28) k_z = dv (gL M (g_z + 1)) (pX (pk b0 1) (pk b2 1) k_z) (pY (pk b1 1) (pk b3 1) k_z) 1)
    (hqq : ∀ (T3 : Mem) (l pc : Int), OutM m (trcT T1 m (x_z - 1) tk d_z) T3 → gI T3 m 46 = 0 → gI T3 m 36 = l → 0 ≤ l → l < 5 → gI T3 (m + 18) l = pc → -1 ≤ pc → pc < 1000 → Rel G (cntM Mp c (x_z - 1) tk d_z) (uI T3 (m + 18) l (pc + 1)) c s m (E_z - 2500 + gI M pf 3) → qq none T3) : Call G J_M_does [a_r m, a_i 13] (trcT T1 m (x_z - 1) tk d_z) qq := by
  obtain ⟨y1, y2, y3, y4, y5, y6, y7, y8, ⟨y9, y10, y11, y12⟩, y13, y14, y15, y16⟩ := drw_N h' hd_z hwd w0_z hvv htp hgg f0_z f1_z hpf hnn_z hhb hq0 hq1 hq2 hq3 hb_z
  obtain ⟨yL, yL0, yL1⟩ := y15 hpf0
  obtain ⟨a1_z, a2, a3, a4⟩ := h'.code hd_z hx htk hp hn hlt (k_z := 13) (by decide) hop
  obtain ⟨u1_z, u2_z, u3, u4_z, u5, u6, u7, u8, u9, u10, u11, u12, u13, u14, u15, u16, u17⟩ := a1_z
  have hsc0 : sc M T' m (c + 22 + 4 * d_z) d_z = scan (cdm T' m x_z) tk.toNat := by unfold sc; rw [u3, u9]
  rw [hsc0] at a3
  have hfa := a3.2.2.2.2.2.2 (Or.inr (Or.inr (Or.inl rfl)))
  have hscn : scan (cdm T' m x_z) (tk.toNat + 1) = scan (cdm T' m x_z) tk.toNat := by
    show stepF (cdm T' m x_z tk.toNat) tk.toNat (scan (cdm T' m x_z) tk.toNat) = _
    rw [a2]
    exact stepF_id (by omega)
  have kP_z := h'.2.2.2.2.2.2.1.get hd_z
  have kP2 := kP_z.2.2.2
  rw [hsc0, hfa] at kP2
  have h25 : gI T' m 25 = 0 := by
    have p5_z := h'.2.2.2.2.2.2.2.2.1.2.2.2.2.1.1
    by_cases q_z : 0 < gI T' m 25
    · exact absurd (kP2.mpr q_z) (by decide)
    · omega
  have b200 := h'.2.2.2.2.1.2.2.2.2.2.2
  have trq := h'.2.2.2.2.2.1
  have dpT : gI T' m 50 = dp := by rw [← h'.2.2.2.2.2.2.2.2.2.2.1.1]; exact hdp
  have tpT : gI T' m 19 = tp := by rw [← h'.2.2.2.2.2.2.2.1.1]; exact htp
  have tp0 : 0 ≤ tp := by
    have := h'.2.2.2.2.2.2.2.1.2.1
    omega
  have p46 := h'.2.2.2.2.2.2.2.2.2.2.1.2.2
  have p33 := h'.2.2.2.2.2.2.2.2.1.2.2.1
  have p05 := h'.2.2.2.2.2.2.2.2.1.1
  generalize hpp : gI T' m 33 = pp at *
  have t3_z : Tr3 T' T1 (trcT T1 m (x_z - 1) tk d_z) m := Tr3.of hy y1
  obtain ⟨hDM, hDc⟩ := hMp
  have htr : ∀ T5, gI T5 m 49 = gI (trcT T1 m (x_z - 1) tk d_z) m 49 → gI T5 (m + 25) = gI (trcT T1 m (x_z - 1) tk d_z) (m + 25) → TrR (cntM Mp c (x_z - 1) tk d_z) T5 c m := fun T5 z1 z2 => by
    obtain ⟨-, -, -, -, -, m9_z, ⟨m10_z, -⟩, -⟩ := hDM
    have gb : c + 42 ≤ g_z := by omega
    exact TrR.step trq (by omega) (m10_z 13 (by decide) (by decide) (by decide)) (m9_z _ (by omega) (by omega) (by omega) (by omega) (by omega) (by omega) (by omega)) (m9_z _ (by omega) (by omega) (by omega) (by omega) (by omega) (by omega) (by omega)) (m9_z _ (by omega) (by omega) (by omega) (by omega) (by omega) (by omega) (by omega)) hy z1 z2
  have hcn : Cnt Mp (cntM Mp c (x_z - 1) tk d_z) c := Cnt.of
  have hkz : gK (cntM Mp c (x_z - 1) tk d_z) = gK Mp ∧ gN (cntM Mp c (x_z - 1) tk d_z) = gN Mp ∧ gz (cntM Mp c (x_z - 1) tk d_z) = gz Mp ∧ gs (cntM Mp c (x_z - 1) tk d_z) = gs Mp := ⟨rfl, rfl, rfl, rfl⟩
  have h15 : gI (cntM Mp c (x_z - 1) tk d_z) c 15 = 0 := cnt_15
  generalize cntM Mp c (x_z - 1) tk d_z = M2_z at *
  generalize trcT T1 m (x_z - 1) tk d_z = T3 at *
  obtain ⟨t1_z, t2_z, t4_z, t5_z, t6⟩ := id t3_z
  have g1 := u2_z
  have cr : ∀ a_z, a_z ≠ m → a_z ≠ m + 25 → a_z ≠ m + 26 → a_z ≠ m + 27 → a_z ≠ m + 28 → gI T3 a_z = gI T' a_z := t2_z
  have f36 : gI T3 m 36 = (d_z : Int) := by rw [t4_z 36 (by decide) (by decide) (by decide) (by decide)]; exact y3
  have f19 : gI T3 (m + 19) d_z = w_z := by rw [t2_z _ (by omega) (by omega) (by omega) (by omega) (by omega)]; exact y4
  have fu3 : gI T3 (m + 20) (16 * d_z + w_z - 1) = fu va := by rw [t2_z _ (by omega) (by omega) (by omega) (by omega) (by omega)]; exact y5
  refine X_doesD (v_z := v_z) t1_z f36 f19 g1 w0_z w1_z fu3 hvf f0_z f1_z (fun q_z hq => Rel.found (T3 := T3) h' hd_z t1_z (t2_z _ (by omega) (by omega) (by omega) (by omega) (by omega)) (t2_z _ (by omega) (by omega) (by omega) (by omega) (by omega)) f36 f19 w0_z w1_z fu3 hnm.1 hnm.2 (by rw [hv]; exact hq)) ?_
  have hs0 : ShM (uI T3 (m + 19) d_z (w_z - 1)) m := t1_z
  have zr : ∀ a_z, a_z ≠ m + 19 → gI (uI T3 (m + 19) d_z (w_z - 1)) a_z = gI T3 a_z := fun a_z q_z => rI_ne q_z
  have zbox : gI (uI T3 (m + 19) d_z (w_z - 1)) (m + 1) (1127 + 5 * f_z) = bf := by rw [zr _ (by omega), t2_z _ (by omega) (by omega) (by omega) (by omega) (by omega)]; exact y8
  have zE : Ex (fun r => m ≤ r ∧ r < m + 29 ∧ ¬ (m + 1 ≤ r ∧ r ≤ m + 3)) T3 (uI T3 (m + 19) d_z (w_z - 1)) := (Ex.refl _ _).uI _ _ (by omega)
  have z6 : gI (uI T3 (m + 19) d_z (w_z - 1)) (m + 6) = gI T' (m + 6) := by rw [zr _ (by omega), t2_z _ (by omega) (by omega) (by omega) (by omega) (by omega)]
  have z7 : gI (uI T3 (m + 19) d_z (w_z - 1)) (m + 7) = gI T' (m + 7) := by rw [zr _ (by omega), t2_z _ (by omega) (by omega) (by omega) (by omega) (by omega)]
  have zf : ∀ j_z, gI (uI T3 (m + 19) d_z (w_z - 1)) m j_z = gI T3 m j_z := fun j_z => by rw [zr m (by omega)]
  refine X_begins (d_z := (d_z : Int)) (p_z := pp) (n_z := nc) (dp := dp) (tp := tp) hs0 (by rw [zf]; exact f36) (by omega) (by omega) (by rw [zf, t4_z 50 (by decide) (by decide) (by decide) (by decide)]; exact dpT) f0_z f1_z (by rw [zf, t4_z 19 (by decide) (by decide) (by decide) (by decide)]; exact tpT) tp0 (by omega) (by rw [zf, t4_z 33 (by decide) (by decide) (by decide) (by decide)]; exact hpp) (by omega) (by omega) (by rw [z6]; exact y13) nc0 (fun q_z => (gd_z (by omega)).1) (fun K_z hK_z kf k19 k7_z => ?_)
  rw [z6, z7] at k7_z
  have kf3 : ∀ j_z, j_z ≠ 19 → gI K_z m j_z = gI T3 m j_z := fun j_z q_z => by rw [kf j_z q_z, zf]
  have hsK : ShM K_z m := Ex.sh (hK_z.mono (fun a_z ha_z => show m ≤ a_z ∧ a_z < m + 29 by omega)) hs0
  have oK : Ex (fun r => m ≤ r ∧ r < m + 29 ∧ ¬ (m + 1 ≤ r ∧ r ≤ m + 3)) T3 K_z := zE.trans (hK_z.mono (fun a_z ha_z => by omega))
  have k25 : gI K_z (m + 25) = gI T3 (m + 25) := by rw [(hK_z.2.2.2.2.2 _ (by omega)).1, zr _ (by omega)]
  have fin_z : ∀ K', Ex (fun r => r = m ∨ r = m + 6 ∨ (m + 8 ≤ r ∧ r ≤ m + 15)) K_z K' → (∀ j_z, j_z ≠ 25 → j_z ≠ 26 → j_z ≠ 27 → j_z ≠ 33 → gI K' m j_z = gI K_z m j_z) → ((DrN M Mp c g_z ∧ K' = K_z) ∨ (DrB M Mp c g_z e_z kk nc (fun j_z => dv (gL M (g_z + 1)) (pX (pk b0 1) (pk b2 1) j_z) (pY (pk b1 1) (pk b3 1) j_z) 0) (fun j_z => dv (gL M (g_z + 1)) (pX (pk b0 1) (pk b2 1) j_z) (pY (pk b1 1) (pk b3 1) j_z) 1) ∧ BxT K_z K' m pp nc ∧ nc < 6 ∧ (∀ k_z, 0 ≤ k_z → k_z < 4 → gI T1 (m + 27) k_z = dv (gL M (g_z + 1)) (pX (pk b0 1) (pk b2 1) k_z) (pY (pk b1 1) (pk b3 1) k_z) 0 ∧ gI T1 (m + 28) k_z = dv (gL M (g_z + 1)) (pX (pk b0 1) (pk b2 1) k_z) (pY (pk b1 1) (pk b3 1) k_z) 1) ∧ (∀ j_z, 0 ≤ j_z → j_z < 4 → (dv (gL M (g_z + 1)) (pX (pk b0 1) (pk b2 1) j_z) (pY (pk b1 1) (pk b3 1) j_z) 0).natAbs ≤ 16000) ∧ (∀ j_z, 0 ≤ j_z → j_z < 4 → (dv (gL M (g_z + 1)) (pX (pk b0 1) (pk b2 1) j_z) (pY (pk b1 1) (pk b3 1) j_z) 1).natAbs ≤ 16000))) → qq none (bgM K' m d_z f_z dp) := fun K' hK' kf' hcase => by
    have hsK' : ShM K' m := Ex.sh (hK'.mono (fun a_z ha_z => show m ≤ a_z ∧ a_z < m + 29 by omega)) hsK
    obtain ⟨g1', g2', g3', g4', g5'⟩ := bgM_g (bgM K' m d_z f_z dp) rfl
    have hs4 : ShM (bgM K' m d_z f_z dp) m := Ex.sh g1' hsK'
    have hs5 : ShM (uI (bgM K' m d_z f_z dp) (m + 18) ((d_z : Int) + 1) (-1 + 1)) m := hs4
    have k25' : gI K' (m + 25) = gI T3 (m + 25) := by rw [(hK'.2.2.2.2.2 _ (by omega)).1, k25]
    refine hqq (bgM K' m d_z f_z dp) ((d_z : Int) + 1) (-1) ((oK.trans (hK'.mono (fun a_z ha_z => by omega))).trans g1') ?_ g3' (by omega) (by omega) g4' (by decide) (by decide) ?_
    · rw [g2' 46 (by decide) (by decide), kf' 46 (by decide) (by decide) (by decide) (by decide), kf3 46 (by decide), t4_z 46 (by decide) (by decide) (by decide) (by decide)]
      exact p46
    · refine fin_draw (K' := K') (len_z := n_z) h' hd_z d4_z htk (by rw [hwd]; exact Int.le_refl _) w0_z htp tp1 hgg hdp f0_z f1_z hpf hb_z hee hkk hnn_z h25 hpp u3 u8 hlt yL0 yL hscn hfa hDM hcn hkz (htr _ ?_ ?_) h15 t3_z hK_z kf3 k19 k7_z rfl hs5 hcase
      · rw [rI_ne (by omega), g2' 49 (by decide) (by decide), kf' 49 (by decide) (by decide) (by decide) (by decide), kf3 49 (by decide)]
      · rw [rI_ne (by omega), g5', k25']
  refine ⟨fun qb => ⟨rfl, fin_z K_z (Ex.refl _ _) (fun _ _ _ _ _ => rfl) (Or.inl ⟨?_, rfl⟩)⟩, fun qb K' hB_z => ⟨rfl, fin_z K' hB_z.1 hB_z.2.1 (Or.inr ?_)⟩⟩
  · rw [zbox] at qb
    rcases hDc with ⟨-, q_z⟩ | ⟨q_z, -⟩
    · exact q_z
    · omega
  · rw [zbox] at qb
    rcases hDc with ⟨q_z, -⟩ | ⟨q_z, q6_z, q2_z⟩
    · omega
    · have rg := (gd_z q_z).2
      exact ⟨q2_z, hB_z, q6_z, hPT q_z, fun j_z j0 j1 => (rg.b j0 j1).1, fun j_z j0 j1 => (rg.b j0 j1).2⟩
theorem op_draw {E_z i_z x_z n_z tk : Int} {d_z p_z : Nat} (h_z : Rel G M T c s m E_z) (hd_z : gI M c 11 = (d_z : Int)) (hx : gI M (c + 22 + 4 * d_z) 4 = x_z - 1) (htk : gI M (c + 22 + 4 * d_z) 5 = tk) (hp : gR M (c + 22 + 4 * d_z) 3 = p_z) (hn : gI M p_z 3 = n_z) (hlt : tk < n_z) (hop : gR M (p_z + 1) tk = G.2 (3 + 13)) (i0_z : 0 ≤ i_z) (i1_z : i_z + 1 < 1000000) (hN_z : Nxt G c s m M E_z i_z Q) (hEr : Err G c s m M E_z Q) : HC G c s i_z M Q := by
  refine op_pre (k_z := 13) h_z hd_z hx htk hp hn hlt (by decide) (by decide) hop i0_z i1_z hEr (fun hb_z hw _ => ?_)
  have h0 := h_z
  have topb := h0.topb hd_z
  obtain ⟨r1_z, r2, r3, ⟨r4, r5_z, r6, r7⟩, r8, r9, r10, r11, r12, r13, ⟨r14, r15, r16⟩, r17⟩ := h_z
  obtain ⟨g1, g2, g3_z, w0_z, w1_z, g6⟩ := h0.opn hd_z
  have nd : need ((13 : Nat) : Int) = 1 := by decide
  rw [nd] at hw
  have hs1 : ShMa (uI M (c + 22 + 4 * d_z) 5 (tk + 1)) c := r1_z
  have ho1 : OpF G (uI M (c + 22 + 4 * d_z) 5 (tk + 1)) := OpF.out r3 ((OutC.refl c M).uI _ _ (by omega)) r6 r4
  have f2_z : ShFr (uI M (c + 22 + 4 * d_z) 5 (tk + 1)) (c + 22 + 4 * d_z) := (r1_z.2.2.2.1 d_z g1).2
  have e13_z : gI (uI M (c + 22 + 4 * d_z) 5 (tk + 1)) c 13 = gI M c 13 := by rw [rI_ne (by omega)]
  have es6 : gI (uI M (c + 22 + 4 * d_z) 5 (tk + 1)) s 6 = gI M s 6 := by rw [rI_ne (by omega)]
  have ew : gI (uI M (c + 22 + 4 * d_z) 5 (tk + 1)) (c + 22 + 4 * d_z) 6 = gI M (c + 22 + 4 * d_z) 6 := by rw [rI_nk (by decide)]
  have hK4 : gK (uI M (c + 22 + 4 * d_z) 5 (tk + 1)) s = 4 := r8.1.1
  generalize hwd : gI M (c + 22 + 4 * d_z) 6 = w_z at *
  have hv1 : ∀ i_z, 0 ≤ i_z → i_z < w_z → NV (gL (uI M (c + 22 + 4 * d_z) 5 (tk + 1)) (c + 22 + 4 * d_z + 1) i_z) ∨ fd (gL (uI M (c + 22 + 4 * d_z) 5 (tk + 1)) (c + 22 + 4 * d_z + 1) i_z) = 0 := fun i_z i0_z i1_z => by
    rcases (g6 i_z i0_z i1_z).2.2 with q_z | q_z
    · exact Or.inl q_z
    · exact Or.inr q_z.1
  have hva := (g6 (w_z - 1) (by omega) (by omega)).2.2
  generalize hvv : gL M (c + 22 + 4 * d_z + 1) (w_z - 1) = va at *
  -- the numbers
  have oP := r11
  obtain ⟨oP1, oP2, oP3, oP4, -⟩ := oP
  have scb : (nsv (sc M T m (c + 22 + 4 * d_z) d_z).1 : Int) ≤ 6 := by
    obtain ⟨q1_z, q2_z, q3_z, q4_z⟩ := h0.code hd_z hx htk hp hn hlt (k_z := 13) (by decide) hop
    have u_z := q1_z
    obtain ⟨u1_z, u2_z, u3, u4_z, u5, u6, u7, u8, u9, u10, u11, u12, u13, -⟩ := u_z
    have := (hst q4_z.1 tk.toNat (by omega)).2.1
    unfold sc
    rw [u3, u9]
    omega
  have tpd : d_z < 4 → gI M c 12 + 1 < 35 := fun q_z => by
    have := topb.1
    omega
  clear topb scb
  generalize htp : gI M c 12 = tp at *
  generalize hgg : c + 42 + 3 * tp.toNat = g_z at *
  have hmt := fun i_z i0_z i1_z => (oP4.1 i_z i0_z i1_z).1
  obtain ⟨-, -, -, y4, y5, y6, -⟩ := oP4
  generalize hnn_z : gI M g_z 2 = nc at *
  have hpa := r12
  obtain ⟨pa1, pa2, -, -, pa5, -, -, -⟩ := hpa
  generalize hee : gI M (c + 4) 5 = e_z at *
  generalize hkk : gI M (c + 4) 6 = kk at *
  have b200 := r8.2.2.2.2.2.2
  have eN_z : 0 ≤ e_z ∧ e_z < 200 ∧ 0 ≤ kk ∧ kk + 4 ≤ 800 := by omega
  generalize hdp : gI M c 14 = dp at *
  -- what is found
  obtain ⟨v_z, f_z, hv, v0_z, v1_z, hvf, f0_z, f1_z⟩ : ∃ v_z f_z : Int, (fd va = 0 → CV M c s d_z (fu va) = v_z) ∧ 0 ≤ v_z ∧ v_z ≤ 205 ∧ (v_z / 100 = 2 → v_z = 200 + f_z) ∧ 0 ≤ f_z ∧ f_z ≤ 5 := by
    by_cases c0_z : fd va = 0
    · have nm : 0 ≤ fu va ∧ fu va ≤ 7 := by
        rcases hva with q_z | q_z
        · have := q_z.2.2.1
          omega
        · exact q_z.2
      have y_z := h0.lk hd_z nm.1 nm.2
      rw [← y_z.1] at y_z
      have y2 : CV M c s d_z (fu va) = 0 ∨ (100 ≤ CV M c s d_z (fu va) ∧ CV M c s d_z (fu va) ≤ 115) ∨ (200 ≤ CV M c s d_z (fu va) ∧ CV M c s d_z (fu va) ≤ 205) := y_z.2
      by_cases c2_z : CV M c s d_z (fu va) / 100 = 2
      · exact ⟨_, CV M c s d_z (fu va) - 200, fun _ => rfl, by omega, by omega, fun _ => by omega, by omega, by omega⟩
      · exact ⟨_, 0, fun _ => rfl, by omega, by omega, fun q_z => absurd q_z c2_z, by decide, by decide⟩
    · exact ⟨0, 0, fun q_z => absurd q_z c0_z, by decide, by decide, fun q_z => by omega, by decide, by decide⟩
  have bx := r8.2.2.1 f_z f0_z (by omega)
  have nb0 := (bx.2.2 0 (by decide) (by decide)).2
  have nb1 := (bx.2.2 1 (by decide) (by decide)).2
  have nb2 := (bx.2.2 2 (by decide) (by decide)).2
  have nb3 := (bx.2.2 3 (by decide) (by decide)).2
  rw [show 4 * f_z + 0 = f_z * 4 + 0 from by omega] at nb0
  rw [show 4 * f_z + 1 = f_z * 4 + 1 from by omega] at nb1
  rw [show 4 * f_z + 2 = f_z * 4 + 2 from by omega] at nb2
  rw [show 4 * f_z + 3 = f_z * 4 + 3 from by omega] at nb3
  have hb01 := bx.1
  clear bx
  generalize hq0 : gI M (s + 3) (f_z * 4 + 0) = b0 at *
  generalize hq1 : gI M (s + 3) (f_z * 4 + 1) = b1 at *
  generalize hq2 : gI M (s + 3) (f_z * 4 + 2) = b2 at *
  generalize hq3 : gI M (s + 3) (f_z * 4 + 3) = b3 at *
  generalize hhb : gI M (s + 2) f_z = bf at *
  generalize hpf : gR M (s + 1) (f_z + 1) = pf at *
  have goC : ∀ qq : Option AV → Mem → Prop, Call G J_Ma_draw [a_r c, a_r (c + 22 + 4 * d_z)] (uI M (c + 22 + 4 * d_z) 5 (tk + 1)) (fun q_z M2_z => ∃ e_z : Int, q_z = some (a_i e_z) ∧ qq (some (a_i e_z)) M2_z) → Call G J_Ma_perform [a_r c, a_r (G.2 (3 + 13)), a_r (c + 22 + 4 * d_z), a_i tk] (uI M (c + 22 + 4 * d_z) 5 (tk + 1)) qq := fun qq hq =>
    perf_go (k_z := 13) hs1 ho1 r5_z hK4 f2_z (by decide) (by rw [e13_z, es6]; exact hb_z) ew w0_z w1_z hv1 (by rw [nd]; exact hw) (fun q_z => absurd q_z (by decide)) (perf_draw hs1 ho1 f2_z hq)
  have cls_z : ∀ qq : Option AV → Mem → Prop, (fd va ≠ 0 → qq (some (a_i 2)) (uI M (c + 22 + 4 * d_z) 5 (tk + 1))) → (fd va = 0 → ¬ (v_z / 100 = 2 ∧ pf ≠ 0) → qq (some (a_i 3)) (uI M (c + 22 + 4 * d_z) 5 (tk + 1))) → (fd va = 0 → v_z / 100 = 2 → pf ≠ 0 → (∃ l : Nat, 1 ≤ l ∧ l ≤ d_z ∧ gI M (c + 22 + 4 * l) 4 = f_z) → qq (some (a_i 4)) (uI M (c + 22 + 4 * d_z) 5 (tk + 1))) → (fd va = 0 → v_z / 100 = 2 → pf ≠ 0 → ¬ (∃ l : Nat, 1 ≤ l ∧ l ≤ d_z ∧ gI M (c + 22 + 4 * l) 4 = f_z) → (d_z = 4 ∨ (bf ≠ 0 ∧ (6 ≤ nc ∨ ¬ rGood (gL M (g_z + 1)) (pk b0 1) (pk b1 1) (pk b2 1) (pk b3 1)))) → ∀ M2_z, Ex (fun a_z => a_z = c + 20 ∨ a_z = c + 21) (uI M (c + 22 + 4 * d_z) 5 (tk + 1)) M2_z → qq (some (a_i 6)) M2_z) → (fd va = 0 → v_z / 100 = 2 → pf ≠ 0 → ¬ (∃ l : Nat, 1 ≤ l ∧ l ≤ d_z ∧ gI M (c + 22 + 4 * l) 4 = f_z) → d_z < 4 → (bf ≠ 0 → nc < 6 ∧ rGood (gL M (g_z + 1)) (pk b0 1) (pk b1 1) (pk b2 1) (pk b3 1)) → ∀ Mp, DwP M Mp c d_z g_z tk w_z tp dp f_z pf bf e_z kk nc (fun j_z => dv (gL M (g_z + 1)) (pX (pk b0 1) (pk b2 1) j_z) (pY (pk b1 1) (pk b3 1) j_z) 0) (fun j_z => dv (gL M (g_z + 1)) (pX (pk b0 1) (pk b2 1) j_z) (pY (pk b1 1) (pk b3 1) j_z) 1) → qq (some (a_i 0)) Mp) → Call G J_Ma_perform [a_r c, a_r (G.2 (3 + 13)), a_r (c + 22 + 4 * d_z), a_i tk] (uI M (c + 22 + 4 * d_z) 5 (tk + 1)) qq := fun qq c2_z c3_z c4_z c6_z c0_z =>
    goC qq (drw_C h0 hd_z g1 hwd hw w1_z hvv hva htp oP2 tpd oP3 hgg hmt hdp hv v0_z v1_z hvf f0_z f1_z hpf hee eN_z.1 eN_z.2.1 hkk eN_z.2.2.1 eN_z.2.2.2 hnn_z y5 hhb hq0 hq1 hq2 hq3 nb0 nb1 nb2 nb3 (fun a_z => ⟨2, rfl, c2_z a_z⟩) (fun a_z b_z => ⟨3, rfl, c3_z a_z b_z⟩) (fun a_z b_z z_z y_z => ⟨4, rfl, c4_z a_z b_z z_z y_z⟩) (fun a_z b_z z_z y_z o M2_z hE => ⟨6, rfl, c6_z a_z b_z z_z y_z o M2_z hE⟩) (fun a_z b_z z_z y_z o u_z Mp hP => ⟨0, rfl, c0_z a_z b_z z_z y_z o u_z Mp hP⟩))
  have wrg := fun (T' : Mem) (h' : Rel G M T' c s m E_z) (qq : Option AV → Mem → Prop) => drw_W (Q := qq) h' hd_z g1 hwd hw w1_z hvv hva htp hgg hv v0_z v1_z hvf f0_z f1_z hpf hnn_z y6 hhb hq0 hq1 hq2 hq3 nb0 nb1 nb2 nb3 hb_z
  by_cases k2_z : fd va ≠ 0
  · exact op_err h0 hd_z hx htk hp hn hlt (by decide) (by decide) hop i0_z i1_z (e_z := 2) (by decide) hEr (fun qq hqq => cls_z qq (fun _ => hqq _ (Ex.refl _ _)) (fun q_z => absurd q_z k2_z) (fun q_z => absurd q_z k2_z) (fun q_z => absurd q_z k2_z) (fun q_z => absurd q_z k2_z)) (fun T' h' qq hqq => wrg T' h' qq (fun _ => hqq _ (Sy.refl _ _)) (fun q_z => absurd q_z k2_z) (fun q_z => absurd q_z k2_z) (fun q_z => absurd q_z k2_z) (fun q_z => absurd q_z k2_z))
  · have k2' : ¬ fd va ≠ 0 := k2_z
    have z2 : ∀ P_z : Prop, fd va ≠ 0 → P_z := fun P_z q_z => absurd q_z k2'
    by_cases k3_z : v_z / 100 = 2 ∧ pf ≠ 0
    · have k3' : ¬ ¬ (v_z / 100 = 2 ∧ pf ≠ 0) := fun q_z => q_z k3_z
      by_cases k4_z : ∃ l : Nat, 1 ≤ l ∧ l ≤ d_z ∧ gI M (c + 22 + 4 * l) 4 = f_z
      · have k4' : ¬ ¬ ∃ l : Nat, 1 ≤ l ∧ l ≤ d_z ∧ gI M (c + 22 + 4 * l) 4 = f_z := fun q_z => q_z k4_z
        exact op_err h0 hd_z hx htk hp hn hlt (by decide) (by decide) hop i0_z i1_z (e_z := 4) (by decide) hEr (fun qq hqq => cls_z qq (fun q_z => absurd q_z k2') (fun _ q_z => absurd q_z k3') (fun _ _ _ _ => hqq _ (Ex.refl _ _)) (fun _ _ _ q_z => absurd q_z k4') (fun _ _ _ q_z => absurd q_z k4')) (fun T' h' qq hqq => wrg T' h' qq (fun q_z => absurd q_z k2') (fun _ q_z => absurd q_z k3') (fun _ _ _ _ => hqq _ (Sy.refl _ _)) (fun _ _ _ q_z => absurd q_z k4') (fun _ _ _ q_z => absurd q_z k4'))
      · by_cases k6_z : d_z = 4 ∨ (bf ≠ 0 ∧ (6 ≤ nc ∨ ¬ rGood (gL M (g_z + 1)) (pk b0 1) (pk b1 1) (pk b2 1) (pk b3 1)))
        · refine op_err h0 hd_z hx htk hp hn hlt (by decide) (by decide) hop i0_z i1_z (e_z := 6) (by decide) hEr (fun qq hqq => cls_z qq (fun q_z => absurd q_z k2') (fun _ q_z => absurd q_z k3') (fun _ _ _ q_z => absurd q_z k4_z) (fun _ _ _ _ _ => hqq) (fun _ _ _ _ q_z u_z Mp hP => ?_)) (fun T' h' qq hqq => wrg T' h' qq (fun q_z => absurd q_z k2') (fun _ q_z => absurd q_z k3') (fun _ _ _ q_z => absurd q_z k4_z) (fun _ _ _ _ _ => hqq) (fun _ _ _ _ q_z T1 hy hz => ?_))
          · rcases k6_z with k6_z | ⟨k6_z, k7_z⟩
            · omega
            · obtain ⟨u1_z, u2_z⟩ := u_z k6_z
              rcases k7_z with k7_z | k7_z
              · omega
              · exact absurd u2_z k7_z
          · rcases k6_z with k6_z | ⟨k6_z, k7_z⟩
            · exact absurd k6_z q_z
            · obtain ⟨u1_z, u2_z, -⟩ := hz k6_z
              rcases k7_z with k7_z | k7_z
              · omega
              · exact absurd u2_z k7_z
        · have d4_z : d_z < 4 := by
            have : ¬ d_z = 4 := fun q_z => k6_z (Or.inl q_z)
            clear k6_z k4_z
            omega
          have gd_z : bf ≠ 0 → nc < 6 ∧ rGood (gL M (g_z + 1)) (pk b0 1) (pk b1 1) (pk b2 1) (pk b3 1) := fun q_z => by
            have a_z : ¬ (6 ≤ nc) := fun y_z => k6_z (Or.inr ⟨q_z, Or.inl y_z⟩)
            exact ⟨by clear k6_z k4_z; omega, Classical.byContradiction (fun y_z => k6_z (Or.inr ⟨q_z, Or.inr y_z⟩))⟩
          have k0_z : fd va = 0 := Classical.byContradiction k2'
          have hvf' := hvf k3_z.1
          have nmm : 0 ≤ fu va ∧ fu va ≤ 7 := by
            rcases hva with q_z | q_z
            · have := q_z.2.2.1
              omega
            · exact q_z.2
          have gb : c + 42 ≤ g_z ∧ g_z + 5 < c + 147 := by
            have := tpd d4_z
            omega
          refine op_ok (E2 := E_z - 2500 + gI M pf 3) (P_z := fun Mp => DwP M Mp c d_z g_z tk w_z tp dp f_z pf bf e_z kk nc (fun j_z => dv (gL M (g_z + 1)) (pX (pk b0 1) (pk b2 1) j_z) (pY (pk b1 1) (pk b3 1) j_z) 0) (fun j_z => dv (gL M (g_z + 1)) (pX (pk b0 1) (pk b2 1) j_z) (pY (pk b1 1) (pk b3 1) j_z) 1)) (PT_z := fun T' T1 => bf ≠ 0 → ∀ k_z, 0 ≤ k_z → k_z < 4 → gI T1 (m + 27) k_z = dv (gL M (g_z + 1)) (pX (pk b0 1) (pk b2 1) k_z) (pY (pk b1 1) (pk b3 1) k_z) 0 ∧ gI T1 (m + 28) k_z = dv (gL M (g_z + 1)) (pX (pk b0 1) (pk b2 1) k_z) (pY (pk b1 1) (pk b3 1) k_z) 1) h0 hd_z hx htk hp hn hlt (by decide) (by decide) hop i0_z i1_z hb_z hN_z (fun qq hqq => cls_z qq (fun q_z => absurd q_z k2') (fun _ q_z => absurd q_z k3') (fun _ _ _ q_z => absurd q_z k4_z) (fun _ _ _ _ q_z => absurd q_z k6_z) (fun _ _ _ _ _ _ Mp hP => hqq Mp hP)) (fun Mp hMp => hMp.out r1_z d4_z gb hx) ?_ (fun T' h' qq hqq => wrg T' h' qq (fun q_z => absurd q_z k2') (fun _ q_z => absurd q_z k3') (fun _ _ _ q_z => absurd q_z k4_z) (fun _ _ _ _ q_z => absurd q_z k6_z) (fun _ _ _ _ _ T1 hy hz => hqq T1 hy (fun q_z => (hz q_z).2.2))) (fun Mp hMp T' h' T1 hy hPT qq hqq => drw_D h' hd_z d4_z hx htk hp hn hlt hop hb_z hwd hw w1_z hvv nmm htp (tpd d4_z) hgg hdp (hv k0_z) hvf' f0_z f1_z hpf k3_z.2 hee hkk hnn_z y5 hhb hb01 hq0 hq1 hq2 hq3 gd_z hMp hy hPT hqq)
          have := ((drw_N h0 hd_z hwd hw hvv htp hgg f0_z f1_z hpf hnn_z hhb hq0 hq1 hq2 hq3 hb_z).2.2.2.2.2.2.2.2.2.2.2.1 k3_z.2).2.2
          clear k2_z k2' k3' k4_z k6_z cls_z wrg goC
          omega
    · have k3' : v_z / 100 = 2 → ¬ pf ≠ 0 := fun q_z z_z => k3_z ⟨q_z, z_z⟩
      exact op_err h0 hd_z hx htk hp hn hlt (by decide) (by decide) hop i0_z i1_z (e_z := 3) (by decide) hEr (fun qq hqq => cls_z qq (fun q_z => absurd q_z k2') (fun _ _ => hqq _ (Ex.refl _ _)) (fun _ b_z q_z => absurd q_z (k3' b_z)) (fun _ b_z q_z => absurd q_z (k3' b_z)) (fun _ b_z q_z => absurd q_z (k3' b_z))) (fun T' h' qq hqq => wrg T' h' qq (fun q_z => absurd q_z k2') (fun _ _ => hqq _ (Sy.refl _ _)) (fun _ b_z q_z => absurd q_z (k3' b_z)) (fun _ b_z q_z => absurd q_z (k3' b_z)) (fun _ b_z q_z => absurd q_z (k3' b_z)))
end BD
