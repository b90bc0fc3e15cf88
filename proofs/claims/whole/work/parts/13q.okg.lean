/-! THE PURE PART, part 13: operators that change more than the frame on top. Own work. -/
theorem Rel.mk {G : Env0} {M T M' T' : Mem} {c s m : Nat} {E_z E'_z : Int} (h_z : Rel G M T c s m E_z) (hs2 : ShMa M' c) (hm2 : ShM T' m) (o : OutC c M M') (e9_z : gR M' c 9 = gR M c 9) (t1_z : gI T' (m + 1) = gI T (m + 1)) (tr_z : TrR M' T' c m) (fr_z : FrR M' T' c s m E'_z) (gs : GsR M' T' c m) (pa : PaR M' T' c m) (it : ItR M' T' c m) (x1_z : gI M' c 14 = gI T' m 50) (x2_z : gI M' c 15 = 0) (x3 : gI T' m 46 = 0) (x4_z : gI M' c 13 ≤ gI M s 6) : Rel G M' T' c s m E'_z := by
  obtain ⟨r1_z, r2, r3, ⟨r4, r5_z, r6, r7⟩, r8, -⟩ := h_z
  refine ⟨hs2, hm2, OpF.out r3 o r6 r4, ⟨r4, by rw [e9_z]; exact r5_z, r6, ?_⟩, EdR.out r8 o r4 r7 t1_z, tr_z, fr_z, gs, pa, it, ⟨x1_z, x2_z, x3⟩, ?_⟩
  · rw [(o.row (r_z := s + 1) (by omega)).2.2]
    exact r7
  · rw [(o.row (r_z := s) (by omega)).1]
    exact x4_z
/-- the frame on top takes its operands and goes one token on -/
theorem FrR.adv {M T M' T' : Mem} {c s m : Nat} {E_z E'_z x_z n_z tk w_z : Int} {d_z : Nat} (h_z : FrR M T c s m E_z) (hd_z : gI M c 11 = (d_z : Int)) (e11_z : gI M' c 11 = gI M c 11) (e36 : gI T' m 36 = gI T m 36) (eR : gR M' = gR M)
    (er : ∀ r_z : Nat, c + 22 ≤ r_z → r_z < c + 22 + 4 * d_z → gI M' r_z = gI M r_z ∧ gL M' r_z = gL M r_z) (f4_z : gI M' (c + 22 + 4 * d_z) 4 = gI M (c + 22 + 4 * d_z) 4) (f5_z : gI M (c + 22 + 4 * d_z) 5 = tk) (f5' : gI M' (c + 22 + 4 * d_z) 5 = tk + 1) (f6_z : gI M' (c + 22 + 4 * d_z) 6 = w_z) (w0_z : 0 ≤ w_z) (w1_z : w_z ≤ gI M (c + 22 + 4 * d_z) 6) (f7_z : gI M' (c + 22 + 4 * d_z) 7 = gI M (c + 22 + 4 * d_z) 7) (fl_z : gL M' (c + 22 + 4 * d_z + 1) = gL M (c + 22 + 4 * d_z + 1)) (f2_z : gI M' (c + 22 + 4 * d_z + 2) = gI M (c + 22 + 4 * d_z + 2)) (f3_z : gI M' (c + 22 + 4 * d_z + 3) = gI M (c + 22 + 4 * d_z + 3))
    (t1_z : gI T' (m + 1) = gI T (m + 1)) (t17 : gI T' (m + 17) = gI T (m + 17)) (t18 : gI T' (m + 18) = upf (gI T (m + 18)) d_z (tk + 1)) (t19 : gI T' (m + 19) = upf (gI T (m + 19)) d_z w_z) (t20 : gI T' (m + 20) = gI T (m + 20)) (t21 : gI T' (m + 21) = gI T (m + 21)) (t22 : gI T' (m + 22) = gI T (m + 22)) (t23 : gI T' (m + 23) = gI T (m + 23)) (t24 : gI T' (m + 24) = gI T (m + 24))
    (hx : gI T (m + 17) d_z = x_z) (hn : lnm T m x_z = n_z) (hlt : tk < n_z) (hL : ∀ (v_z : Int) (f_z : Int → Int), LpO (scan (cdm T m x_z) tk.toNat).1 v_z f_z → LpO (scan (cdm T m x_z) (tk.toNat + 1)).1 v_z f_z)
    (h12 : gI M' c 12 = gI M c 12 - nsv (scan (cdm T m x_z) tk.toNat).1 + nsv (scan (cdm T m x_z) (tk.toNat + 1)).1)
    (hp : (scan (cdm T m x_z) (tk.toNat + 1)).2 = true ↔ 0 < gI T' m 25)
    (hE : E'_z = E_z - (200 - gI M c 13) * 2500 + (200 - gI M' c 13) * 2500 - 1) : FrR M' T' c s m E'_z := by
  obtain ⟨g1, g2, gF, gP⟩ := h_z.get hd_z
  have tk0 : 0 ≤ tk := by
    have := gF.2.2.1.2.1
    have := gF.2.2.1.1
    omega
  have ec : ∀ y_z, cdm T' m y_z = cdm T m y_z := fun y_z => by
    funext k
    unfold cdm
    rw [t1_z]
  have so : sc M T m (c + 22 + 4 * d_z) d_z = scan (cdm T m x_z) tk.toNat := by
    unfold sc
    rw [hx, f5_z]
  have sn : sc M' T' m (c + 22 + 4 * d_z) d_z = scan (cdm T m x_z) (tk.toNat + 1) := by
    unfold sc
    rw [t17, hx, f5', ec, show (tk + 1).toNat = tk.toNat + 1 from by omega]
  refine FrR.top h_z hd_z e11_z e36 eR er t1_z t17 (fun l l0 l1 => ⟨by rw [t18, upf_ne _ _ (by omega)], by rw [t19, upf_ne _ _ (by omega)], by rw [t22]⟩) (fun i_z _ _ => by rw [t20, t21]; exact ⟨rfl, rfl⟩) (fun i_z _ _ => by rw [t23, t24]; exact ⟨rfl, rfl⟩) ?_ (by rw [so, sn]; exact h12) (by rw [sn]; exact hp) ?_
  · obtain ⟨v1_z, v2, v3, v4_z, v5, v6, v7, v8⟩ := gF
    rw [t18, upf_at]
    unfold FrL lnm
    unfold lnm at v2 v3 hn
    rw [eR, t1_z, t17, t19, t20, t21, t22, t23, t24, ec, f4_z, f5', f6_z, f7_z, fl_z, f2_z, f3_z, upf_at]
    rw [hx] at v1_z v2 v3 v8 ⊢
    refine ⟨v1_z, v2, ⟨rfl, by omega, by omega⟩, ⟨rfl, w0_z, by omega⟩, fun i_z i0_z i1_z => v5 i_z i0_z (by omega), v6, v7, ?_⟩
    rw [show (tk + 1).toNat = tk.toNat + 1 from by omega]
    have e18_z : gI T (m + 18) d_z = tk := by omega
    rw [e18_z] at v8
    exact hL _ _ v8
  · unfold wrk lnm
    rw [t1_z, t17, f5', f5_z, f7_z, f3_z]
    omega
section GB
variable {G : Env0} {Q : Option AV → Mem → Prop} {M T : Mem} {c s m : Nat}
theorem op_ok {E_z E2 i_z x_z n_z tk : Int} {d_z p_z k_z : Nat} {P_z : Mem → Prop} {PT_z : Mem → Mem → Prop} (h_z : Rel G M T c s m E_z) (hd_z : gI M c 11 = (d_z : Int)) (hx : gI M (c + 22 + 4 * d_z) 4 = x_z - 1) (htk : gI M (c + 22 + 4 * d_z) 5 = tk) (hp : gR M (c + 22 + 4 * d_z) 3 = p_z) (hn : gI M p_z 3 = n_z) (hlt : tk < n_z) (hk : k_z < 23) (hk15 : k_z ≠ 15) (hop : gR M (p_z + 1) tk = G.2 (3 + k_z)) (i0_z : 0 ≤ i_z) (i1_z : i_z + 1 < 1000000) (hb_z : gI M c 13 < gI M s 6) (hN_z : Nxt G c s m M E_z i_z Q)
    (hC : ∀ qq : Option AV → Mem → Prop, (∀ Mp, P_z Mp → qq (some (a_i 0)) Mp) → Call G J_Ma_perform [a_r c, a_r (G.2 (3 + k_z)), a_r (c + 22 + 4 * d_z), a_i tk] (uI M (c + 22 + 4 * d_z) 5 (tk + 1)) qq)
    (hP : ∀ Mp, P_z Mp → ShMa Mp c ∧ gI Mp (c + 22 + 4 * d_z) 4 = x_z - 1 ∧ gI Mp c 13 = gI M c 13 ∧ OutC c M Mp) (hE : E2 < E_z)
    (hM_z : ∀ T', Rel G M T' c s m E_z → ∀ qq : Option AV → Mem → Prop, (∀ T1, Sy T' T1 m → PT_z T' T1 → qq (some (a_i 0)) T1) → Call G J_M_wrong [a_r m, a_i (k_z : Int)] T' qq)
    (hD : ∀ Mp, P_z Mp → ∀ T', Rel G M T' c s m E_z → ∀ T1, Sy T' T1 m → PT_z T' T1 → ∀ qq : Option AV → Mem → Prop, (∀ (T3 : Mem) (l pc : Int), OutM m (trcT T1 m (x_z - 1) tk d_z) T3 → gI T3 m 46 = 0 → gI T3 m 36 = l → 0 ≤ l → l < 5 → gI T3 (m + 18) l = pc → -1 ≤ pc → pc < 1000 → Rel G (cntM Mp c (x_z - 1) tk d_z) (uI T3 (m + 18) l (pc + 1)) c s m E2 → qq none T3) → Call G J_M_does [a_r m, a_i (k_z : Int)] (trcT T1 m (x_z - 1) tk d_z) qq) : HC G c s i_z M Q := by
  have h0 := h_z
  obtain ⟨ht0, -⟩ := h_z.topM hd_z hx htk hp hn
  obtain ⟨r1_z, r2, r3, ⟨r4, r5_z, r6, r7⟩, r8, r9, r10, r11, r12, r13, ⟨r14, r15, r16⟩, r17⟩ := h_z
  have hbud := r8.2.2.2.2.2.2
  have hd5 := r10.1.2.2
  refine HC_op r1_z r3 r6 r4 hd_z ht0 hlt hk hk15 hop i0_z i1_z (hC _ (fun Mp hMp => ?_))
  obtain ⟨p1_z, p2_z, p3_z, p4_z⟩ := hP Mp hMp
  have o2 : OutC c M (cntM Mp c (x_z - 1) tk d_z) := ((((p4_z.uI _ _ (by omega)).uI _ _ (by omega)).uI _ _ (by omega)).uI _ _ (by omega)).uI _ _ (by omega)
  refine ⟨0, rfl, p1_z, p2_z, fun _ => ⟨⟨by have := r9.2.1; omega, by omega⟩, ?_⟩, fun q_z => absurd rfl q_z⟩
  refine hN_z _ E2 hE o2 (fun T' h' R_z hR => ?_)
  obtain ⟨a1_z, a2, -, -⟩ := h'.code hd_z hx htk hp hn hlt hk hop
  have h'0 := h'
  obtain ⟨q1_z, q2_z, q3_z, -, q8_z, q9_z, q10_z, q11_z, q12_z, q13_z, ⟨q14_z, q15_z, q16_z⟩, q17_z⟩ := h'
  refine HM_op q2_z a1_z hlt a2 (by omega) (by omega) (by omega) (hM_z T' h'0 _ (fun T1 hy hPT => ?_))
  refine ⟨0, rfl, hy, fun q_z => by omega, fun _ => ⟨q16_z, ⟨by have := q9_z.1; have := q9_z.2.1; omega, by have := q9_z.1; omega⟩, ?_⟩⟩
  have hm1 := hy.sh q2_z
  have hmt : ShM (trcT T1 m (x_z - 1) tk d_z) m := hm1
  have o1 : OutM m T' (trcT T1 m (x_z - 1) tk d_z) := (((hy.outM.uI _ _ (by omega)).uI _ _ (by omega)).uI _ _ (by omega)).uI _ _ (by omega)
  refine hD Mp hMp T' h'0 T1 hy hPT _ (fun T3 l pc o3_z e46 e36 l0 l1 e18_z pc0 pc1 hr => ?_)
  exact ⟨rfl, Ex.sh o3_z hmt, e46, l, pc, e36, l0, l1, e18_z, pc0, pc1, hR _ ((o1.trans o3_z).uI _ _ (by omega)) hr⟩
end GB
/-- what counting leaves -/
theorem cnt_row {Mp : Mem} {c a_z : Nat} {st_z tk : Int} {d_z : Nat} (n0_z : a_z ≠ c) (n1_z : a_z ≠ c + 17) (n2_z : a_z ≠ c + 18) (n3_z : a_z ≠ c + 19) : gI (cntM Mp c st_z tk d_z) a_z = gI Mp a_z := by
  unfold cntM
  rw [rI_ne n0_z, rI_ne n3_z, rI_ne n2_z, rI_ne n1_z, rI_ne n0_z]
theorem cnt_fld {Mp : Mem} {c : Nat} {st_z tk j_z : Int} {d_z : Nat} (n0_z : j_z ≠ 13) (n1_z : j_z ≠ 15) : gI (cntM Mp c st_z tk d_z) c j_z = gI Mp c j_z := by
  unfold cntM
  rw [rI_nk n0_z, rI_ne (by omega), rI_ne (by omega), rI_ne (by omega), rI_nk n1_z]
theorem cnt_15 {Mp : Mem} {c : Nat} {st_z tk : Int} {d_z : Nat} : gI (cntM Mp c st_z tk d_z) c 15 = 0 := by
  unfold cntM
  rw [rI_nk (by decide), rI_ne (by omega), rI_ne (by omega), rI_ne (by omega), rI_at]
theorem cnt_13 {Mp : Mem} {c : Nat} {st_z tk : Int} {d_z : Nat} : gI (cntM Mp c st_z tk d_z) c 13 = gI Mp c 13 + 1 := by
  unfold cntM
  rw [rI_at]
/-- the counter's part behind an operator -/
theorem TrR.step {M T' Mp T1 T4 : Mem} {c m d_z : Nat} {st_z tk : Int} (h_z : TrR M T' c m) (h2 : gI M c 13 < 200) (e13_z : gI Mp c 13 = gI M c 13) (e17_z : gI Mp (c + 17) = gI M (c + 17)) (e18_z : gI Mp (c + 18) = gI M (c + 18)) (e19_z : gI Mp (c + 19) = gI M (c + 19)) (hy : Sy T' T1 m) (t49 : gI T4 m 49 = gI (trcT T1 m st_z tk d_z) m 49) (t25 : gI T4 (m + 25) = gI (trcT T1 m st_z tk d_z) (m + 25)) : TrR (cntM Mp c st_z tk d_z) T4 c m := by
  have f49 : gI T1 m 49 = gI T' m 49 := hy.fld (by decide)
  refine TrR.count (st_z := st_z) (tk := tk) (fo := d_z) h_z h2 ?_ ?_ ?_ ?_ ?_ ?_
  · rw [cnt_13, e13_z]
  · unfold cntM
    rw [rI_ne (by omega), rI_ne (by omega), rI_ne (by omega), rI_row, rI_ne (by omega), e17_z, e13_z]
  · unfold cntM
    rw [rI_ne (by omega), rI_ne (by omega), rI_row, rI_ne (by omega), rI_ne (by omega), e18_z, e13_z]
  · unfold cntM
    rw [rI_ne (by omega), rI_row, rI_ne (by omega), rI_ne (by omega), rI_ne (by omega), e19_z, e13_z]
  · rw [t49]
    unfold trcT
    rw [rI_at, f49]
  · rw [t25]
    unfold trcT
    rw [rI_ne (by omega), rI_row, rI_row, rI_row, f49, hy.row (r_z := m + 25) (by omega) (by omega) (by omega) (by omega)]
