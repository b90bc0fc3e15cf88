/-! THE PURE PART, part 13: operators that change the frame on top alone. Own work. -/
theorem Rel.wk {G : Env0} {M T : Mem} {c s m : Nat} {E_z x_z n_z tk : Int} {d_z p_z : Nat} (ht : Top G M T s m (c + 22 + 4 * d_z) d_z x_z n_z tk p_z) : wrk M T m (c + 22 + 4 * d_z) d_z = 200 * lft (gI M (c + 22 + 4 * d_z + 3)) (gI M (c + 22 + 4 * d_z) 7) + (n_z - tk) + 1 := by
  obtain ⟨u1_z, u2_z, u3, u4_z, u5, u6, u7, u8, u9, u10, u11, u12, u13, u14, u15, u16, u17⟩ := ht
  unfold wrk
  rw [u3, u8, u9]
section AB
variable {G : Env0} {Q : Option AV → Mem → Prop} {M T : Mem} {c s m : Nat}
theorem op_okF {E_z i_z x_z n_z tk wk_z : Int} {d_z p_z k_z : Nat} {Mp : Mem} {PT_z : Mem → Mem → Prop} (h_z : Rel G M T c s m E_z) (hd_z : gI M c 11 = (d_z : Int)) (hx : gI M (c + 22 + 4 * d_z) 4 = x_z - 1) (htk : gI M (c + 22 + 4 * d_z) 5 = tk) (hp : gR M (c + 22 + 4 * d_z) 3 = p_z) (hn : gI M p_z 3 = n_z) (hlt : tk < n_z) (hk : k_z < 23) (hk15 : k_z ≠ 15) (hop : gR M (p_z + 1) tk = G.2 (3 + k_z)) (i0_z : 0 ≤ i_z) (i1_z : i_z + 1 < 1000000) (hb_z : gI M c 13 < gI M s 6) (hN_z : Nxt G c s m M E_z i_z Q)
    (hC : ∀ qq : Option AV → Mem → Prop, qq (some (a_i 0)) Mp → Call G J_Ma_perform [a_r c, a_r (G.2 (3 + k_z)), a_r (c + 22 + 4 * d_z), a_i tk] (uI M (c + 22 + 4 * d_z) 5 (tk + 1)) qq)
    (hMp : Ex (fun a_z => c + 22 + 4 * d_z ≤ a_z ∧ a_z < c + 22 + 4 * d_z + 4) M Mp) (h4 : gI Mp (c + 22 + 4 * d_z) 4 = gI M (c + 22 + 4 * d_z) 4)
    (hwk : wk_z < 200 * lft (gI M (c + 22 + 4 * d_z + 3)) (gI M (c + 22 + 4 * d_z) 7) + (n_z - tk) + 1 + 2500)
    (hM_z : ∀ T', Rel G M T' c s m E_z → ∀ qq : Option AV → Mem → Prop, (∀ T1, Sy T' T1 m → PT_z T' T1 → qq (some (a_i 0)) T1) → Call G J_M_wrong [a_r m, a_i (k_z : Int)] T' qq)
    (hD : ∀ T', Rel G M T' c s m E_z → ∀ T1, Sy T' T1 m → PT_z T' T1 → ∃ T3, (∀ qq : Option AV → Mem → Prop, qq none T3 → Call G J_M_does [a_r m, a_i (k_z : Int)] (trcT T1 m (x_z - 1) tk d_z) qq) ∧ Ex (fun a_z => m + 18 ≤ a_z ∧ a_z < m + 25) (trcT T1 m (x_z - 1) tk d_z) T3 ∧ (-1 ≤ gI T3 (m + 18) d_z ∧ gI T3 (m + 18) d_z < 1000) ∧
      (∀ l : Int, 0 ≤ l → l < d_z → gI T3 (m + 18) l = gI T' (m + 18) l ∧ gI T3 (m + 19) l = gI T' (m + 19) l ∧ gI T3 (m + 22) l = gI T' (m + 22) l) ∧ (∀ i_z : Int, 0 ≤ i_z → i_z < 16 * d_z → gI T3 (m + 20) i_z = gI T' (m + 20) i_z ∧ gI T3 (m + 21) i_z = gI T' (m + 21) i_z) ∧ (∀ i_z : Int, 0 ≤ i_z → i_z < 3 * d_z → gI T3 (m + 23) i_z = gI T' (m + 23) i_z ∧ gI T3 (m + 24) i_z = gI T' (m + 24) i_z) ∧
      FrL Mp (uI T3 (m + 18) d_z (gI T3 (m + 18) d_z + 1)) s m (c + 22 + 4 * d_z) d_z (gI T3 (m + 18) d_z + 1) ∧ nsv (sc Mp (uI T3 (m + 18) d_z (gI T3 (m + 18) d_z + 1)) m (c + 22 + 4 * d_z) d_z).1 = nsv (sc M T' m (c + 22 + 4 * d_z) d_z).1 ∧ (sc Mp (uI T3 (m + 18) d_z (gI T3 (m + 18) d_z + 1)) m (c + 22 + 4 * d_z) d_z).2 = (sc M T' m (c + 22 + 4 * d_z) d_z).2 ∧ wrk Mp (uI T3 (m + 18) d_z (gI T3 (m + 18) d_z + 1)) m (c + 22 + 4 * d_z) d_z = wk_z) : HC G c s i_z M Q := by
  have h0 := h_z
  obtain ⟨ht0, -⟩ := h_z.topM hd_z hx htk hp hn
  obtain ⟨r1_z, r2, r3, ⟨r4, r5_z, r6, r7⟩, r8, r9, r10, r11, r12, r13, ⟨r14, r15, r16⟩, r17⟩ := h_z
  have hd5 := r10.1.2.2
  have hbud := r8.2.2.2.2.2.2
  have rowP : ∀ a_z, ¬ (c + 22 + 4 * d_z ≤ a_z ∧ a_z < c + 22 + 4 * d_z + 4) → gI Mp a_z = gI M a_z := fun a_z ha_z => (hMp.2.2.2.2.2 a_z ha_z).1
  have rowPL : ∀ a_z, ¬ (c + 22 + 4 * d_z ≤ a_z ∧ a_z < c + 22 + 4 * d_z + 4) → gL Mp a_z = gL M a_z := fun a_z ha_z => (hMp.2.2.2.2.2 a_z ha_z).2
  have o1 : OutC c M Mp := hMp.outC (fun r_z hr => by omega)
  have o2 : OutC c M (cntM Mp c (x_z - 1) tk d_z) := ((((o1.uI _ _ (by omega)).uI _ _ (by omega)).uI _ _ (by omega)).uI _ _ (by omega)).uI _ _ (by omega)
  have e13_z : gI Mp c 13 = gI M c 13 := by rw [rowP c (by omega)]
  refine HC_op r1_z r3 r6 r4 hd_z ht0 hlt hk hk15 hop i0_z i1_z (hC _ ?_)
  refine ⟨0, rfl, hMp.ma r1_z, by rw [h4]; exact hx, fun _ => ⟨⟨by have := r9.2.1; omega, by omega⟩, ?_⟩, fun q_z => absurd rfl q_z⟩
  refine hN_z _ (E_z - 2500 - (200 * lft (gI M (c + 22 + 4 * d_z + 3)) (gI M (c + 22 + 4 * d_z) 7) + (n_z - tk) + 1) + wk_z) (by omega) o2 (fun T' h' R_z hR => ?_)
  obtain ⟨a1_z, a2, -, -⟩ := h'.code hd_z hx htk hp hn hlt hk hop
  have hwk' := Rel.wk (E_z := E_z) (G := G) a1_z
  have h'0 := h'
  obtain ⟨q1_z, q2_z, q3_z, -, q8_z, q9_z, q10_z, q11_z, q12_z, q13_z, ⟨q14_z, q15_z, q16_z⟩, q17_z⟩ := h'
  have u_z := a1_z
  obtain ⟨u1_z, u2_z, u3, u4_z, u5, u6, u7, u8, u9, u10, u11, u12, u13, u14, u15, u16, u17⟩ := u_z
  refine HM_op q2_z a1_z hlt a2 (by omega) (by omega) (by omega) (hM_z T' h'0 _ (fun T1 hy hPT => ?_))
  refine ⟨0, rfl, hy, fun q_z => by omega, fun _ => ⟨q16_z, ⟨by have := q9_z.1; have := q9_z.2.1; omega, by have := q9_z.1; omega⟩, ?_⟩⟩
  obtain ⟨T3, hdo, hE3, ⟨pc0, pc1⟩, tl, t20, t23, hF, hns, hpf, hwk3⟩ := hD T' h'0 T1 hy hPT
  refine hdo _ ?_
  have hm1 := hy.sh q2_z
  have hmt : ShM (trcT T1 m (x_z - 1) tk d_z) m := hm1
  have hm3 : ShM T3 m := Ex.sh hE3 hmt
  have rowT : ∀ a_z, a_z ≠ m → a_z ≠ m + 25 → ¬ (m + 18 ≤ a_z ∧ a_z < m + 25) → a_z ≠ m + 26 → a_z ≠ m + 27 → a_z ≠ m + 28 → gI T3 a_z = gI T' a_z := fun a_z n0_z n1_z n2_z n3_z n4_z n5_z => by
    rw [(hE3.2.2.2.2.2 a_z n2_z).1]
    unfold trcT
    rw [rI_ne n0_z, rI_ne n1_z, rI_ne n1_z, rI_ne n1_z]
    exact hy.row n0_z n3_z n4_z n5_z
  have fldT : ∀ k_z, k_z ≠ 49 → k_z ≠ 16 → k_z ≠ 20 → k_z ≠ 21 → gI T3 m k_z = gI T' m k_z := fun k_z n0_z n1_z n2_z n3_z => by
    rw [(hE3.2.2.2.2.2 m (by omega)).1]
    unfold trcT
    rw [rI_nk n0_z, rI_ne (by omega), rI_ne (by omega), rI_ne (by omega)]
    exact hy.fld ⟨n1_z, n2_z, n3_z⟩
  have f49 : gI T1 m 49 = gI T' m 49 := hy.fld (by decide)
  have o3_z : OutM m T' T3 := (((((hy.outM.uI _ _ (by omega)).uI _ _ (by omega)).uI _ _ (by omega)).uI _ _ (by omega)) : OutM m T' (trcT T1 m (x_z - 1) tk d_z)).trans (hE3.mono (fun r_z hr => by omega))
  have r25 : gI T3 (m + 25) = upf (upf (upf (gI T' (m + 25)) (3 * gI T' m 49) (x_z - 1)) (3 * gI T' m 49 + 1) tk) (3 * gI T' m 49 + 2) d_z := by
    rw [(hE3.2.2.2.2.2 (m + 25) (by omega)).1]
    unfold trcT
    rw [rI_ne (by omega), rI_row, rI_row, rI_row, f49, hy.row (r_z := m + 25) (by omega) (by omega) (by omega) (by omega)]
  have t49 : gI T3 m 49 = gI T' m 49 + 1 := by
    rw [(hE3.2.2.2.2.2 m (by omega)).1]
    unfold trcT
    rw [rI_at, f49]
  refine ⟨rfl, hm3, by rw [fldT 46 (by decide) (by decide) (by decide) (by decide)]; exact q16_z, d_z, _, by rw [fldT 36 (by decide) (by decide) (by decide) (by decide)]; exact u1_z, by omega, by omega, rfl, pc0, pc1, ?_⟩
  refine hR _ (o3_z.uI _ _ (by omega)) ?_
  -- the counter's cells
  have c17 : gI (cntM Mp c (x_z - 1) tk d_z) (c + 17) = upf (gI M (c + 17)) (gI M c 13) (x_z - 1) := by
    unfold cntM
    rw [rI_ne (by omega), rI_ne (by omega), rI_ne (by omega), rI_row, rI_ne (by omega), rowP _ (by omega), e13_z]
  have c18_z : gI (cntM Mp c (x_z - 1) tk d_z) (c + 18) = upf (gI M (c + 18)) (gI M c 13) tk := by
    unfold cntM
    rw [rI_ne (by omega), rI_ne (by omega), rI_row, rI_ne (by omega), rI_ne (by omega), rowP _ (by omega), e13_z]
  have c19_z : gI (cntM Mp c (x_z - 1) tk d_z) (c + 19) = upf (gI M (c + 19)) (gI M c 13) d_z := by
    unfold cntM
    rw [rI_ne (by omega), rI_row, rI_ne (by omega), rI_ne (by omega), rI_ne (by omega), rowP _ (by omega), e13_z]
  have cro : ∀ a_z, a_z ≠ c → a_z ≠ c + 17 → a_z ≠ c + 18 → a_z ≠ c + 19 → gI (cntM Mp c (x_z - 1) tk d_z) a_z = gI Mp a_z := fun a_z n0_z n1_z n2_z n3_z => by
    unfold cntM
    rw [rI_ne n0_z, rI_ne n3_z, rI_ne n2_z, rI_ne n1_z, rI_ne n0_z]
  have cfl : ∀ k_z, k_z ≠ 13 → k_z ≠ 15 → gI (cntM Mp c (x_z - 1) tk d_z) c k_z = gI M c k_z := fun k_z n0_z n1_z => by
    unfold cntM
    rw [rI_nk n0_z, rI_ne (by omega), rI_ne (by omega), rI_ne (by omega), rI_nk n1_z, rowP c (by omega)]
  have cL : gL (cntM Mp c (x_z - 1) tk d_z) = gL Mp := rfl
  have cR : gR (cntM Mp c (x_z - 1) tk d_z) = gR M := hMp.2.2.1
  have c15_z : gI (cntM Mp c (x_z - 1) tk d_z) c 15 = 0 := by
    unfold cntM
    rw [rI_nk (by decide), rI_ne (by omega), rI_ne (by omega), rI_ne (by omega), rI_at]
  have c13_z : gI (cntM Mp c (x_z - 1) tk d_z) c 13 = gI M c 13 + 1 := by
    unfold cntM
    rw [rI_at, e13_z]
  have hsP : ShMa (cntM Mp c (x_z - 1) tk d_z) c := hMp.ma r1_z
  generalize hpcv : gI T3 (m + 18) d_z = pc at *
  have hsc : ∀ T4, sc (cntM Mp c (x_z - 1) tk d_z) T4 m (c + 22 + 4 * d_z) d_z = sc Mp T4 m (c + 22 + 4 * d_z) d_z := fun T4 => by
    unfold sc
    rw [cro _ (by omega) (by omega) (by omega) (by omega)]
  have hwkc : ∀ T4, wrk (cntM Mp c (x_z - 1) tk d_z) T4 m (c + 22 + 4 * d_z) d_z = wrk Mp T4 m (c + 22 + 4 * d_z) d_z := fun T4 => by
    unfold wrk
    rw [cro _ (by omega) (by omega) (by omega) (by omega), cro _ (by omega) (by omega) (by omega) (by omega)]
  have hFc : FrL (cntM Mp c (x_z - 1) tk d_z) (uI T3 (m + 18) d_z (pc + 1)) s m (c + 22 + 4 * d_z) d_z (pc + 1) := FrL.fr hF rfl (cro _ (by omega) (by omega) (by omega) (by omega)) (by rw [cL]) (cro _ (by omega) (by omega) (by omega) (by omega)) (cro _ (by omega) (by omega) (by omega) (by omega)) rfl rfl rfl (fun _ _ _ => ⟨rfl, rfl⟩) rfl (fun _ _ _ => ⟨rfl, rfl⟩)
  generalize cntM Mp c (x_z - 1) tk d_z = M2_z at *
  refine Rel.frame h'0 hsP hm3 o2 cR (fun r_z h1 h2 => by rw [cro r_z (by omega) (by omega) (by omega) (by omega), rowP r_z (by omega)]) (fun r_z h1 h2 => ⟨by rw [cro r_z (by omega) (by omega) (by omega) (by omega), rowP r_z (by omega)], by rw [cL, rowPL r_z (by omega)]⟩) (cfl _ (by decide) (by decide)) (cfl _ (by decide) (by decide)) c15_z (by omega) (by omega) (fun r_z h1 h2 => by rw [rI_ne (by omega), rowT r_z (by omega) (by omega) (by omega) (by omega) (by omega) (by omega)]) (fun k_z n0_z n1_z n2_z n3_z => by rw [rI_ne (by omega), fldT k_z n0_z n1_z n2_z n3_z]) (TrR.count q9_z (by omega) c13_z c17 c18_z c19_z (by rw [rI_ne (by omega)]; exact t49) (by rw [rI_ne (by omega)]; exact r25)) ?_
  refine FrR.top q10_z hd_z (cfl _ (by decide) (by decide)) (by rw [rI_ne (by omega), fldT _ (by decide) (by decide) (by decide) (by decide)]) cR (fun r_z h1 h2 => ⟨by rw [cro r_z (by omega) (by omega) (by omega) (by omega), rowP r_z (by omega)], by rw [cL, rowPL r_z (by omega)]⟩) (by rw [rI_ne (by omega), rowT _ (by omega) (by omega) (by omega) (by omega) (by omega) (by omega)]) (by rw [rI_ne (by omega), rowT _ (by omega) (by omega) (by omega) (by omega) (by omega) (by omega)]) (fun l h1 h2 => ?_) (fun i_z h1 h2 => ?_) (fun i_z h1 h2 => ?_) ?_ ?_ ?_ ?_
  · obtain ⟨z1, z2, z3⟩ := tl l h1 h2
    rw [rI_nk (by omega), rI_ne (by omega), rI_ne (by omega)]
    exact ⟨z1, z2, z3⟩
  · rw [rI_ne (by omega), rI_ne (by omega)]
    exact t20 i_z h1 h2
  · rw [rI_ne (by omega), rI_ne (by omega)]
    exact t23 i_z h1 h2
  · rw [rI_at]
    exact hFc
  · rw [hsc, hns, cfl _ (by decide) (by decide)]
    omega
  · rw [hsc, hpf, rI_ne (by omega), fldT _ (by decide) (by decide) (by decide) (by decide)]
    exact (q10_z.get hd_z).2.2.2
  · rw [hwkc, hwk3, hwk', c13_z]
    omega
end AB
