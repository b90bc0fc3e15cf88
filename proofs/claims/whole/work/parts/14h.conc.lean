/-! THE PURE PART, part 14: concat. Own work (partly written by a program of its own). -/
/-- the class's machine with a_z new matrix -/
def CcM (M Mp : Mem) (c r_z g_z : Nat) (tk w_z : Int) (X_z : Int → Int) : Prop := gK Mp = gK M ∧ gN Mp = gN M ∧ gR Mp = gR M ∧ gz Mp = gz M ∧ gs Mp = gs M ∧ (∀ a_z, a_z ≠ c + 20 → a_z ≠ g_z + 1 → gL Mp a_z = gL M a_z) ∧ (∀ j_z, 0 ≤ j_z → j_z < 6 → gL Mp (g_z + 1) j_z = X_z j_z) ∧ (∀ a_z, a_z ≠ c + 20 → a_z ≠ r_z → gI Mp a_z = gI M a_z) ∧ (∀ j_z, j_z ≠ 5 → j_z ≠ 6 → gI Mp r_z j_z = gI M r_z j_z) ∧ gI Mp r_z 5 = tk + 1 ∧ gI Mp r_z 6 = w_z - 6
theorem CcM.of {M M' : Mem} {c r_z g_z : Nat} {tk w_z : Int} {X_z : Int → Int} (hE : Ex (fun a_z => a_z = c + 20) (uI M r_z 5 (tk + 1)) M') (hr : c + 22 ≤ r_z) (hX : ∀ j_z : Int, 0 ≤ j_z → j_z < 6 → gL M' (c + 20) j_z = X_z j_z) : CcM M (uI (uCL M' (g_z + 1) 0 (c + 20) 0 6) r_z 6 (w_z - 6)) c r_z g_z tk w_z X_z := by
  obtain ⟨a1_z, a2, a3, a4, a5, a6⟩ := hE
  have ei : ∀ a_z, gI (uI (uCL M' (g_z + 1) 0 (c + 20) 0 6) r_z 6 (w_z - 6)) a_z = gI (uI M' r_z 6 (w_z - 6)) a_z := fun a_z => rfl
  have eR : ∀ j_z, j_z ≠ 6 → gI (uI (uCL M' (g_z + 1) 0 (c + 20) 0 6) r_z 6 (w_z - 6)) r_z j_z = gI (uI M r_z 5 (tk + 1)) r_z j_z := fun j_z j6_z => by
    rw [rI_nk j6_z, gI_uCL, (a6 r_z (by omega)).1]
  refine ⟨a1_z, a2, a3, a4, a5, fun a_z n0_z n1_z => ?_, fun j_z j0 j1 => ?_, fun a_z n0_z n1_z => ?_, fun j_z j5_z j6_z => ?_, ?_, rI_at⟩
  · show gL (uCL M' (g_z + 1) 0 (c + 20) 0 6) a_z = _
    rw [rCL_ne n1_z]
    exact (a6 a_z n0_z).2
  · show gL (uCL M' (g_z + 1) 0 (c + 20) 0 6) (g_z + 1) j_z = _
    rw [rCL_in ⟨rfl, by omega, by omega⟩, show (0 : Int) + (j_z - 0) = j_z from by omega]
    exact hX j_z j0 j1
  · rw [ei, rI_ne n1_z, (a6 a_z n0_z).1, rI_ne n1_z]
  · rw [eR j_z j6_z, rI_nk j5_z]
  · rw [eR 5 (by decide), rI_at]
theorem CcM.le {M Mp : Mem} {c d_z g_z : Nat} {tk w_z : Int} {X_z : Int → Int} (h_z : CcM M Mp c (c + 22 + 4 * d_z) g_z tk w_z X_z) (hd_z : d_z < 5) (hg : c + 42 ≤ g_z ∧ g_z + 2 < c + 147) (hs : ShMa M c) : LeC M Mp c d_z tk (w_z - 6) := by
  obtain ⟨a1_z, a2, a3, a4, a5, a6, a7, a8, a9, a10, a11⟩ := h_z
  refine ⟨?_, a3, ⟨a1_z, a2, a4, a5, fun r_z hr => ⟨a8 r_z (by omega) (by omega), a6 r_z (by omega) (by omega), by rw [a3]⟩⟩, fun a_z a0_z a1_z n_z => ⟨a8 a_z (by omega) n_z, a6 a_z (by omega) (by omega)⟩, fun a_z a0_z a1_z => a8 a_z (by omega) (by omega), fun j_z hj => by rw [a8 c (by omega) (by omega)], a9 4 (by decide) (by decide), a10, a11, a9 7 (by decide) (by decide)⟩
  unfold ShMa ShM0 ShM0x ShPa ShPax ShIt ShItx ShFr ShFrx ShGr ShGrx
  rw [a1_z, a2, a3]
  exact hs
section QE
variable {G : Env0} {Q : Option AV → Mem → Prop} {M T : Mem} {c s m : Nat}
theorem fin_conc {Mp T' T1 T3 : Mem} {d_z g_z : Nat} {tk w_z tp : Int} {X_z : Int → Int} {st_z : Stk × Bool} {qq : Option AV → Mem → Prop} (hc5 : CcM M Mp c (c + 22 + 4 * d_z) g_z tk w_z X_z) (nX : ∀ j_z, 0 ≤ j_z → j_z < 6 → NV (X_z j_z)) (htp : gI M c 12 = tp) (hgg : c + 42 + 3 * tp.toNat = g_z)
    (t3_z : Tr3 T' T1 T3 m) (hPT : ∀ j_z, 0 ≤ j_z → j_z < 6 → gI T1 (m + 26) j_z = fu (X_z j_z) ∧ gI T1 (m + 26) (6 + j_z) = fd (X_z j_z)) (m2_z : gI T' m 36 = (d_z : Int)) (m3_z : gI T' (m + 19) d_z = w_z) (g1 : d_z < 5) (hw : 6 ≤ w_z) (w1_z : w_z ≤ 16) (hpa : st_z.2 = true ↔ 0 < gI T' m 25) (q11_z : GsR M T' c m) (q12_z : PaR M T' c m) (q13_z : ItR M T' c m)
    (hqq : ∀ T4 : Mem, LeM T' T3 T4 m d_z (w_z - 6) → (∀ v_z f_z, LpO st_z.1 v_z f_z → LpO (stepF ((2 : Nat) : Int) tk.toNat st_z).1 v_z f_z) → ((stepF ((2 : Nat) : Int) tk.toNat st_z).2 = true ↔ 0 < gI T4 m 25) → (∀ M2_z, Cnt Mp M2_z c → gI M2_z c 12 = gI M c 12 - nsv st_z.1 + nsv (stepF ((2 : Nat) : Int) tk.toNat st_z).1 ∧ GsR M2_z T4 c m ∧ PaR M2_z T4 c m ∧ ItR M2_z T4 c m) → qq none T4) : Call G J_M_does [a_r m, a_i 2] T3 qq := by
  obtain ⟨t1_z, t2_z, t4_z, t5_z, t6⟩ := t3_z
  obtain ⟨-, -, -, -, -, h6, h7, h8, -, -, -⟩ := hc5
  have f36 : gI T3 m 36 = (d_z : Int) := by rw [t4_z 36 (by decide) (by decide) (by decide) (by decide)]; exact m2_z
  have f19 : gI T3 (m + 19) d_z = w_z := by rw [t2_z _ (by omega) (by omega) (by omega) (by omega) (by omega)]; exact m3_z
  have f26 := t5_z (m + 26) (by omega) (by omega)
  refine X_doesV2 t1_z f36 f19 g1 hw w1_z (fun K_z hE k6_z => ?_)
  have kr : ∀ a_z, a_z ≠ m + 6 → a_z ≠ m + 19 → gI K_z a_z = gI T3 a_z := fun a_z n0_z n4_z => by
    rw [(hE.2.2.2.2.2 a_z n0_z).1, rI_ne n4_z]
  have k19 : gI K_z (m + 19) = upf (gI T3 (m + 19)) d_z (w_z - 6) := by
    rw [(hE.2.2.2.2.2 (m + 19) (by omega)).1, rI_row]
  have oK : OutM m T3 K_z := ((Ex.refl _ _).uI _ _ (by omega)).trans (hE.mono (fun a_z ha_z => by omega))
  have kr' : ∀ a_z, a_z ≠ m → a_z ≠ m + 6 → a_z ≠ m + 19 → a_z ≠ m + 25 → a_z ≠ m + 26 → a_z ≠ m + 27 → a_z ≠ m + 28 → gI K_z a_z = gI T' a_z := fun a_z n0_z n1_z n4_z n5_z n6_z n7 n8 => by
    rw [kr a_z n1_z n4_z, t2_z a_z n0_z n5_z n6_z n7 n8]
  have kf' : ∀ j_z, j_z ≠ 49 → j_z ≠ 16 → j_z ≠ 20 → j_z ≠ 21 → gI K_z m j_z = gI T' m j_z := fun j_z n2_z n3_z n4_z n5_z => by
    rw [kr m (by omega) (by omega), t4_z j_z n2_z n3_z n4_z n5_z]
  rw [t2_z (m + 6) (by omega) (by omega) (by omega) (by omega) (by omega), f26] at k6_z
  rw [t2_z (m + 19) (by omega) (by omega) (by omega) (by omega) (by omega)] at k19
  have est : stepF ((2 : Nat) : Int) tk.toNat st_z = st_z := by
    unfold stepF
    rw [if_neg (by decide), if_neg (by decide), if_neg (by decide), if_neg (by decide), if_neg (by decide)]
  refine hqq K_z ⟨oK, fun a_z ha_z => kr' a_z (by omega) (by omega) (by omega) (by omega) (by omega) (by omega) (by omega), kr _ (by omega) (by omega), k19, fun j_z hj => kf' j_z (by omega) (by omega) (by omega) (by omega), by rw [kr m (by omega) (by omega)]⟩ (fun v_z f_z q_z => ?_) ?_ (fun M2_z hc_z => ?_)
  · rw [est]
    exact q_z
  · rw [est, kf' 25 (by decide) (by decide) (by decide) (by decide)]
    exact hpa
  · obtain ⟨e1_z, e2_z, e3_z, e4_z, e5_z⟩ := hc_z
    have er : ∀ a_z, a_z ≠ c → a_z ≠ c + 17 → a_z ≠ c + 18 → a_z ≠ c + 19 → a_z ≠ c + 20 → a_z ≠ c + 22 + 4 * d_z → gI M2_z a_z = gI M a_z := fun a_z n0_z n1_z n2_z n3_z nx n4_z => by rw [e3_z a_z n0_z n1_z n2_z n3_z, h8 a_z nx n4_z]
    have eL : ∀ a_z, a_z ≠ c + 20 → a_z ≠ g_z + 1 → gL M2_z a_z = gL M a_z := fun a_z n0_z n1_z => by rw [e1_z]; exact h6 a_z n0_z n1_z
    have eG : ∀ j_z, 0 ≤ j_z → j_z < 6 → gL M2_z (g_z + 1) j_z = X_z j_z := fun j_z j0 j1 => by rw [e1_z]; exact h7 j_z j0 j1
    have e13' : gI M2_z c 13 = gI M c 13 + 1 := by rw [e5_z, h8 c (by omega) (by omega)]
    have e12' : gI M2_z c 12 = gI M c 12 := by rw [e4_z _ (by decide) (by decide), h8 c (by omega) (by omega)]
    have po : Pool M T' M2_z K_z c m := Pool.rows (fun a_z a0_z a1_z => er a_z (by omega) (by omega) (by omega) (by omega) (by omega) (by omega)) (kf' _ (by decide) (by decide) (by decide) (by decide)) (fun a_z a0_z a1_z => kr' a_z (by omega) (by omega) (by omega) (by omega) (by omega) (by omega) (by omega))
    obtain ⟨y1, y2, y3, y4, y5⟩ := q11_z
    rw [htp] at y1 y2 y3 y4 y5
    rw [hgg] at y4
    refine ⟨?_, ⟨?_, by rw [e12', htp]; exact y2, by rw [e12', htp]; exact y3, ?_, fun t_z ht => ?_⟩, ?_, ?_⟩
    · rw [est, e12']
      omega
    · rw [e12', htp, kf' 19 (by decide) (by decide) (by decide) (by decide)]
      exact y1
    · rw [e12', htp, hgg]
      obtain ⟨z1, z2, z3, z4, z5, z6, z7⟩ := y4
      have rg : gI M2_z g_z = gI M g_z := er g_z (by omega) (by omega) (by omega) (by omega) (by omega) (by omega)
      have rg2 : gI M2_z (g_z + 2) = gI M (g_z + 2) := er (g_z + 2) (by omega) (by omega) (by omega) (by omega) (by omega) (by omega)
      have rk : ∀ k_z, 12 ≤ k_z → gI K_z (m + 6) k_z = gI T' (m + 6) k_z := fun k_z k0_z => by rw [k6_z, rc_out _ _ (by omega)]
      unfold GrR
      rw [rg, rg2, rk 12 (by decide), rk 13 (by decide)]
      refine ⟨fun i_z i0_z i1_z => ?_, z2, z3, z4, z5, z6, fun i_z i0_z i1_z => ?_⟩
      · obtain ⟨w1_z, w2_z⟩ := hPT i_z i0_z i1_z
        rw [eG i_z i0_z i1_z, k6_z, rc_in _ _ (by omega), rc_in _ _ (by omega), show (0 : Int) + (i_z - 0) = i_z from by omega, show (0 : Int) + (6 + i_z - 0) = 6 + i_z from by omega]
        exact ⟨nX i_z i0_z i1_z, w1_z, w2_z⟩
      · rw [rk (14 + i_z) (by omega)]
        exact ClR.fr (z7 i_z i0_z i1_z) po
    · rw [e12', htp] at ht
      have tn_z : t_z < tp.toNat := by omega
      exact GrR.fr (y5 t_z ht) po (er _ (by omega) (by omega) (by omega) (by omega) (by omega) (by omega)) (eL _ (by omega) (by omega)) (er _ (by omega) (by omega) (by omega) (by omega) (by omega) (by omega)) (fun k_z k0_z k1_z => by rw [kr' (m + 7) (by omega) (by omega) (by omega) (by omega) (by omega) (by omega) (by omega)])
    · exact PaR.rows q12_z (by omega) (fun a_z a0_z a1_z => er a_z (by omega) (by omega) (by omega) (by omega) (by omega) (by omega)) (fun j_z hj => kf' j_z (by omega) (by omega) (by omega) (by omega)) (fun a_z a0_z a1_z => kr' a_z (by omega) (by omega) (by omega) (by omega) (by omega) (by omega) (by omega))
    · exact ItR.fr q13_z po (fun a_z a0_z a1_z => er a_z (by omega) (by omega) (by omega) (by omega) (by omega) (by omega)) (kf' _ (by decide) (by decide) (by decide) (by decide)) (kr' _ (by omega) (by omega) (by omega) (by omega) (by omega) (by omega) (by omega))
theorem op_concat {E_z i_z x_z n_z tk : Int} {d_z p_z : Nat} (h_z : Rel G M T c s m E_z) (hd_z : gI M c 11 = (d_z : Int)) (hx : gI M (c + 22 + 4 * d_z) 4 = x_z - 1) (htk : gI M (c + 22 + 4 * d_z) 5 = tk) (hp : gR M (c + 22 + 4 * d_z) 3 = p_z) (hn : gI M p_z 3 = n_z) (hlt : tk < n_z) (hop' : gR M (p_z + 1) tk = G.2 (3 + 2)) (i0_z : 0 ≤ i_z) (i1_z : i_z + 1 < 1000000) (hN_z : Nxt G c s m M E_z i_z Q) (hEr : Err G c s m M E_z Q) : HC G c s i_z M Q := by
  refine op_pre (k_z := 2) h_z hd_z hx htk hp hn hlt (by decide) (by decide) hop' i0_z i1_z hEr (fun hb_z hw hg => ?_)
  have h0 := h_z
  obtain ⟨r1_z, r2, r3, ⟨r4, r5_z, r6, r7⟩, r8, r9, r10, r11, r12, r13, ⟨r14, r15, r16⟩, r17⟩ := h_z
  obtain ⟨g1, g2, g3_z, w0_z, w1_z, g6⟩ := h0.opn hd_z
  have nd : need ((2 : Nat) : Int) = 6 := by decide
  rw [nd] at hw
  have hs1 : ShMa (uI M (c + 22 + 4 * d_z) 5 (tk + 1)) c := r1_z
  have ho1 : OpF G (uI M (c + 22 + 4 * d_z) 5 (tk + 1)) := OpF.out r3 ((OutC.refl c M).uI _ _ (by omega)) r6 r4
  have f2_z : ShFr (uI M (c + 22 + 4 * d_z) 5 (tk + 1)) (c + 22 + 4 * d_z) := (r1_z.2.2.2.1 d_z g1).2
  have e13_z : gI (uI M (c + 22 + 4 * d_z) 5 (tk + 1)) c 13 = gI M c 13 := by rw [rI_ne (by omega)]
  have es6 : gI (uI M (c + 22 + 4 * d_z) 5 (tk + 1)) s 6 = gI M s 6 := by rw [rI_ne (by omega)]
  have ew : gI (uI M (c + 22 + 4 * d_z) 5 (tk + 1)) (c + 22 + 4 * d_z) 6 = gI M (c + 22 + 4 * d_z) 6 := by rw [rI_nk (by decide)]
  have hK4 : gK (uI M (c + 22 + 4 * d_z) 5 (tk + 1)) s = 4 := r8.1.1
  generalize hwd : gI M (c + 22 + 4 * d_z) 6 = w_z at *
  have hv1 : ∀ i_z, 0 ≤ i_z → i_z < w_z → NV (gL (uI M (c + 22 + 4 * d_z) 5 (tk + 1)) (c + 22 + 4 * d_z + 1) i_z) ∨ fd (gL (uI M (c + 22 + 4 * d_z) 5 (tk + 1)) (c + 22 + 4 * d_z + 1) i_z) = 0 := fun i_z i0_z i1_z => by
    rcases (g6 i_z i0_z i1_z).2.2 with q_z | q_z
    · exact Or.inl q_z
    · exact Or.inr q_z.1
  have hg := hg (by omega)
  rw [nd] at hg
  obtain ⟨op_z, hopd⟩ : ∃ op_z : Int → Int, op_z = fun x_z => gL M (c + 22 + 4 * d_z + 1) (w_z - 1 - x_z) := ⟨_, rfl⟩
  have hop : ∀ x_z, 0 ≤ x_z → x_z < 6 → NV (op_z x_z) := fun x_z x0_z x1_z => by rw [hopd]; exact hg x_z x0_z x1_z
  have ho : ∀ x_z, 0 ≤ x_z → x_z < 6 → gL (uI M (c + 22 + 4 * d_z) 5 (tk + 1)) (c + 22 + 4 * d_z + 1) (w_z - 1 - x_z) = op_z x_z := fun x_z x0_z x1_z => by rw [hopd]; rfl
  -- the graphics state
  have oP := r11
  obtain ⟨oP1, oP2, oP3, oP4, -⟩ := oP
  generalize htp : gI M c 12 = tp at *
  have e12_z : gI (uI M (c + 22 + 4 * d_z) 5 (tk + 1)) c 12 = tp := by rw [rI_ne (by omega)]; exact htp
  generalize hgg : c + 42 + 3 * tp.toNat = g_z at *
  have gb : c + 42 ≤ g_z ∧ g_z + 2 < c + 147 := by omega
  have hm_z := fun i_z i0_z i1_z => (oP4.1 i_z i0_z i1_z).1
  generalize hmt : gL M (g_z + 1) = mt_z at *
  have hmt' : gL (uI M (c + 22 + 4 * d_z) 5 (tk + 1)) (g_z + 1) = mt_z := hmt
  have num_z : ∀ T', Rel G M T' c s m E_z → _ := fun T' h' => Rel.nums h' hd_z hwd hb_z (k_z := 2) (by omega) (by rw [nd]; exact hw) (by
    intro i_z i0_z i1_z
    rw [nd] at i1_z
    exact hg i_z i0_z i1_z)
  obtain ⟨BAD, hBAD⟩ : ∃ BAD : Prop, BAD = ∃ j_z, 0 ≤ j_z ∧ j_z < 6 ∧ pv mt_z op_z j_z = -1 := ⟨_, rfl⟩
  have good_z : (∀ j_z, 0 ≤ j_z → j_z < 6 → NV (pv mt_z op_z j_z)) → ¬ BAD := fun q_z => by
    rw [hBAD]
    rintro ⟨j_z, j0, j1, j2_z⟩
    exact nv_ne (q_z j_z j0 j1) j2_z
  have addP_z : ∀ qq : Option AV → Mem → Prop, (BAD → ∀ M2_z, Ex (fun a_z => a_z = c + 20 ∨ a_z = c + 21) (uI M (c + 22 + 4 * d_z) 5 (tk + 1)) M2_z → qq (some (a_i 6)) M2_z) → (¬ BAD → (∀ j_z, 0 ≤ j_z → j_z < 6 → NV (pv mt_z op_z j_z)) → ∀ Mp, CcM M Mp c (c + 22 + 4 * d_z) g_z tk w_z (pv mt_z op_z) → qq (some (a_i 0)) Mp) → Call G J_Ma_concat [a_r c, a_r (c + 22 + 4 * d_z)] (uI M (c + 22 + 4 * d_z) 5 (tk + 1)) qq := fun qq q6_z q0 =>
    X_concat (op_z := op_z) (mt_z := mt_z) (g_z := g_z) (w_z := w_z) (tp := tp) hs1 f2_z e12_z oP2 oP3 hgg ew hw w1_z hop ho hm_z hmt' (by omega) (fun q_z M' hE => q6_z (by rw [hBAD]; exact q_z) M' (hE.mono (fun a_z ha_z => Or.inl ha_z))) (fun q_z M' hE hR => q0 (good_z q_z) q_z _ (CcM.of hE (by omega) hR))
  have wrg : ∀ T', Rel G M T' c s m E_z → ∀ qq : Option AV → Mem → Prop, (∀ T1, Sy T' T1 m → (BAD → qq (some (a_i 6)) T1) ∧ (¬ BAD → (∀ j_z, 0 ≤ j_z → j_z < 6 → gI T1 (m + 26) j_z = fu (pv mt_z op_z j_z) ∧ gI T1 (m + 26) (6 + j_z) = fd (pv mt_z op_z j_z)) → qq (some (a_i 0)) T1)) → Call G J_M_wrong [a_r m, a_i 2] T' qq := fun T' h' qq hqq => by
    obtain ⟨m1_z, m2_z, m3_z, m4_z, m5_z, m6_z⟩ := num_z T' h'
    obtain ⟨-, -, -, -, -, -, -, q11_z, q12_z, -⟩ := h'
    have gv : GV (uI T' m 16 0) m mt_z := by
      have y_z := q11_z.2.2.2.1
      rw [htp, hgg] at y_z
      intro i_z i0_z i1_z
      rw [rI_ne (by omega), ← hmt]
      exact y_z.1 i_z i0_z i1_z
    have hm0 : ShM (uI T' m 16 0) m := m1_z
    refine X_wrongN m1_z (by omega) (by omega) (by omega) m4_z m6_z ?_
    refine X_tooM (w_z := w_z) (op_z := op_z) (mt_z := mt_z) hm0 (by rw [rI_nk (by decide)]; exact m2_z) (by rw [rI_ne (by omega)]; exact m3_z) g1 hw w1_z rI_at gv hop (fun i_z i0_z i1_z => by
      rw [rI_ne (by omega), rI_ne (by omega), hopd]
      exact m5_z i_z i0_z (by omega)) (fun T1 hy hD => ?_)
    have hy' : Sy T' T1 m := (sy_fl0 T' m).trans hy
    obtain ⟨w6_z, w0_z⟩ := hqq T1 hy'
    have hs1 := hy'.sh m1_z
    rcases hD with ⟨z1, z2⟩ | ⟨z1, z2⟩
    · have q_z := good_z (fun j_z j0 j1 => (z2 j_z j0 j1).1)
      exact ⟨0, rfl, hs1, Or.inl z1, fun y_z => by omega, fun _ _ => w0_z q_z (fun j_z j0 j1 => (z2 j_z j0 j1).2)⟩
    · exact ⟨0, rfl, hs1, Or.inr z1, fun _ => w6_z (by rw [hBAD]; exact z2), fun _ y_z => by omega⟩
  by_cases bad_z : BAD
  · refine op_err h0 hd_z hx htk hp hn hlt (by decide) (by decide) hop' i0_z i1_z (e_z := 6) (by decide) hEr (fun qq hqq => ?_) (fun T' h' qq hqq => wrg T' h' qq (fun T1 hy => ⟨fun _ => hqq T1 hy, fun q_z => absurd bad_z q_z⟩))
    refine perf_go (k_z := 2) hs1 ho1 r5_z hK4 f2_z (by decide) (by rw [e13_z, es6]; exact hb_z) ew w0_z w1_z hv1 (by rw [nd]; exact hw) (fun q_z => hg) ?_
    have sm_z := ho1.1
    have s17 : gI (uI M (c + 22 + 4 * d_z) 5 (tk + 1)) (G.2 1) 2 = 14 := sm_z.2.2 2 (by decide)
    have ad := addP_z (fun r_z M2_z => At G 86 157 [a_r c, a_r (G.2 (3 + 2)), a_r (c + 22 + 4 * d_z), a_i tk] r_z.toList M2_z qq) (fun _ M2_z hE => by
      have hh := hqq M2_z hE
      simp (disch := omega) only [B_86_157, inI, inL, isT, kInt, kByt, true_and, and_true, an_t, im_t, im_f, or_true, true_or, true_imp_iff, false_imp_iff, not_true_eq_false, not_false_eq_true, gK_uI, gK_uL, gK_uR, gK_uCI, gK_uCL, gN_uI, gN_uL, gN_uR, gN_uCI, gN_uCL, gR_uI, gR_uL, gR_uCI, gR_uCL, gI_uL, gI_uR, gI_uCL, gL_uI, gL_uR, gL_uCI, gz_uI, gz_uL, gz_uR, gz_uCI, gz_uCL, gs_uI, gs_uL, gs_uR, gs_uCI, gs_uCL, rI_at, rL_at, rR_at, rI_ne, rL_ne, rR_ne, rI_nk, rL_nk, rR_nk, rI_eq, rL_eq, rR_eq, Option.toList_some, Option.toList_none, List.cons_append, List.nil_append, List.append_nil, zc_eq, zc_lt, zc_le, zc_ge, zc_gt]
      exact hh) (fun q_z => absurd bad_z q_z)
    rw [B_86_33]
    simp (disch := omega) only [sm_z.1, sm_z.2.1, s17, Int.cast_ofNat_Int, B_86_152, hs1.1.u, inI, inL, isT, kInt, kByt, true_and, and_true, an_t, im_t, im_f, or_true, true_or, true_imp_iff, false_imp_iff, not_true_eq_false, not_false_eq_true, gK_uI, gK_uL, gK_uR, gK_uCI, gK_uCL, gN_uI, gN_uL, gN_uR, gN_uCI, gN_uCL, gR_uI, gR_uL, gR_uCI, gR_uCL, gI_uL, gI_uR, gI_uCL, gL_uI, gL_uR, gL_uCI, gz_uI, gz_uL, gz_uR, gz_uCI, gz_uCL, gs_uI, gs_uL, gs_uR, gs_uCI, gs_uCL, rI_at, rL_at, rR_at, rI_ne, rL_ne, rR_ne, rI_nk, rL_nk, rR_nk, rI_eq, rL_eq, rR_eq, Option.toList_some, Option.toList_none, List.cons_append, List.nil_append, List.append_nil, zc_eq, zc_lt, zc_le, zc_ge, zc_gt]
    all_goals exact ad
  · have nX : ∀ j_z, 0 ≤ j_z → j_z < 6 → NV (pv mt_z op_z j_z) := fun j_z j0 j1 => by
      rcases rv_pv hop hm_z j0 j1 with q_z | q_z
      · exact absurd (by rw [hBAD]; exact ⟨j_z, j0, j1, q_z⟩) bad_z
      · exact q_z
    refine op_run (w_z := w_z - 6) (P_z := fun Mp => CcM M Mp c (c + 22 + 4 * d_z) g_z tk w_z (pv mt_z op_z)) (PT_z := fun T' T1 => ∀ j_z, 0 ≤ j_z → j_z < 6 → gI T1 (m + 26) j_z = fu (pv mt_z op_z j_z) ∧ gI T1 (m + 26) (6 + j_z) = fd (pv mt_z op_z j_z)) h0 hd_z hx htk hp hn hlt (by decide) (by decide) hop' i0_z i1_z hb_z hN_z (by omega) (by omega) (fun qq hqq => ?_) (fun Mp hMp => hMp.le g1 gb r1_z) (fun T' h' qq hqq => wrg T' h' qq (fun T1 hy => ⟨fun q_z => absurd q_z bad_z, fun _ h5 => hqq T1 hy h5⟩)) (fun Mp hMp T' h' T1 hy hPT T3 t3_z st_z hst hleg hpa qq hqq => ?_)
    · refine perf_go (k_z := 2) hs1 ho1 r5_z hK4 f2_z (by decide) (by rw [e13_z, es6]; exact hb_z) ew w0_z w1_z hv1 (by rw [nd]; exact hw) (fun q_z => hg) ?_
      have sm_z := ho1.1
      have s17 : gI (uI M (c + 22 + 4 * d_z) 5 (tk + 1)) (G.2 1) 2 = 14 := sm_z.2.2 2 (by decide)
      have ad := addP_z (fun r_z M2_z => At G 86 157 [a_r c, a_r (G.2 (3 + 2)), a_r (c + 22 + 4 * d_z), a_i tk] r_z.toList M2_z qq) (fun q_z => absurd q_z bad_z) (fun _ _ Mp hMp => by
        have hh := hqq Mp hMp
        simp (disch := omega) only [B_86_157, inI, inL, isT, kInt, kByt, true_and, and_true, an_t, im_t, im_f, or_true, true_or, true_imp_iff, false_imp_iff, not_true_eq_false, not_false_eq_true, gK_uI, gK_uL, gK_uR, gK_uCI, gK_uCL, gN_uI, gN_uL, gN_uR, gN_uCI, gN_uCL, gR_uI, gR_uL, gR_uCI, gR_uCL, gI_uL, gI_uR, gI_uCL, gL_uI, gL_uR, gL_uCI, gz_uI, gz_uL, gz_uR, gz_uCI, gz_uCL, gs_uI, gs_uL, gs_uR, gs_uCI, gs_uCL, rI_at, rL_at, rR_at, rI_ne, rL_ne, rR_ne, rI_nk, rL_nk, rR_nk, rI_eq, rL_eq, rR_eq, Option.toList_some, Option.toList_none, List.cons_append, List.nil_append, List.append_nil, zc_eq, zc_lt, zc_le, zc_ge, zc_gt]
        exact hh)
      rw [B_86_33]
      simp (disch := omega) only [sm_z.1, sm_z.2.1, s17, Int.cast_ofNat_Int, B_86_152, hs1.1.u, inI, inL, isT, kInt, kByt, true_and, and_true, an_t, im_t, im_f, or_true, true_or, true_imp_iff, false_imp_iff, not_true_eq_false, not_false_eq_true, gK_uI, gK_uL, gK_uR, gK_uCI, gK_uCL, gN_uI, gN_uL, gN_uR, gN_uCI, gN_uCL, gR_uI, gR_uL, gR_uCI, gR_uCL, gI_uL, gI_uR, gI_uCL, gL_uI, gL_uR, gL_uCI, gz_uI, gz_uL, gz_uR, gz_uCI, gz_uCL, gs_uI, gs_uL, gs_uR, gs_uCI, gs_uCL, rI_at, rL_at, rR_at, rI_ne, rL_ne, rR_ne, rI_nk, rL_nk, rR_nk, rI_eq, rL_eq, rR_eq, Option.toList_some, Option.toList_none, List.cons_append, List.nil_append, List.append_nil, zc_eq, zc_lt, zc_le, zc_ge, zc_gt]
      all_goals exact ad
    · obtain ⟨m1_z, m2_z, m3_z, -, -, -⟩ := num_z T' h'
      obtain ⟨-, -, -, -, -, q9_z, -, q11_z, q12_z, q13_z, -⟩ := h'
      exact fin_conc (g_z := g_z) hMp nX rfl (by rw [htp]; exact hgg) t3_z hPT m2_z m3_z g1 hw w1_z hpa q11_z q12_z q13_z hqq
end QE
