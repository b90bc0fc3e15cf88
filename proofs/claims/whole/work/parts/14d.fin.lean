/-! THE PURE PART, part 14: what is left when a rectangle was added. Own work (partly written by a program of its own). -/
theorem up4_congr {f_z X_z X' : Int → Int} {k_z : Int} (h_z : ∀ j_z, 0 ≤ j_z → j_z < 4 → X' j_z = X_z j_z) : up4 f_z k_z X' = up4 f_z k_z X_z := by
  unfold up4
  rw [h_z 0 (by decide) (by decide), h_z 1 (by decide) (by decide), h_z 2 (by decide) (by decide), h_z 3 (by decide) (by decide)]
/-- the class's machine with four points more -/
def RcM (M Mp : Mem) (c r_z : Nat) (tk w_z kk : Int) (X_z Y : Int → Int) : Prop := gK Mp = gK M ∧ gN Mp = gN M ∧ gR Mp = gR M ∧ gz Mp = gz M ∧ gs Mp = gs M ∧ (∀ a_z, a_z ≠ c + 21 → gL Mp a_z = gL M a_z) ∧ (∀ a_z, a_z ≠ c + 21 → a_z ≠ c + 4 → a_z ≠ c + 5 → a_z ≠ c + 6 → a_z ≠ c + 7 → a_z ≠ r_z → gI Mp a_z = gI M a_z) ∧ (∀ j_z, j_z ≠ 6 → gI Mp (c + 4) j_z = gI M (c + 4) j_z) ∧ gI Mp (c + 4) 6 = kk + 4 ∧ (∀ j_z, j_z ≠ 5 → j_z ≠ 6 → gI Mp r_z j_z = gI M r_z j_z) ∧ gI Mp r_z 5 = tk + 1 ∧ gI Mp r_z 6 = w_z - 4 ∧ gI Mp (c + 5) = up4 (gI M (c + 5)) kk X_z ∧ gI Mp (c + 6) = up4 (gI M (c + 6)) kk Y ∧ gI Mp (c + 7) = up4 (gI M (c + 7)) kk fl4
theorem RcM.of {M M' : Mem} {c r_z : Nat} {tk w_z kk : Int} {X_z Y : Int → Int} (hE : Ex (fun a_z => a_z = c + 21) (uI M r_z 5 (tk + 1)) M') (hr : c + 22 ≤ r_z) (hk : gI M (c + 4) 6 = kk) (hX : ∀ j_z : Int, 0 ≤ j_z → j_z < 4 → gI M' (c + 21) (2 * j_z) = X_z j_z) (hY : ∀ j_z : Int, 0 ≤ j_z → j_z < 4 → gI M' (c + 21) (2 * j_z + 1) = Y j_z) : RcM M (uI (pAdd4 M' (c + 4) (c + 21)) r_z 6 (w_z - 4)) c r_z tk w_z kk X_z Y := by
  obtain ⟨a1_z, a2, a3, a4, a5, a6⟩ := hE
  have row_z : ∀ a_z, a_z ≠ c + 21 → a_z ≠ r_z → gI M' a_z = gI M a_z := fun a_z n0_z n1_z => by rw [(a6 a_z n0_z).1, rI_ne n1_z]
  have hk' : gI M' (c + 4) 6 = kk := by rw [row_z _ (by omega) (by omega)]; exact hk
  obtain ⟨f1_z, f2_z, f3_z, f4_z, f5_z, f6_z⟩ := pAdd4_f (M_z := M') (r_z := c + 4) (a_z := c + 21) hk'
  obtain ⟨k1_z, k2_z, k3_z, k4_z, k5_z, k6_z⟩ := pAdd4_k M' (c + 4) (c + 21)
  have xx : gI (pAdd4 M' (c + 4) (c + 21)) (c + 5) = up4 (gI M (c + 5)) kk X_z := by
    have e_z : gI (pAdd4 M' (c + 4) (c + 21)) (c + 5) = _ := f4_z
    rw [e_z, row_z (c + 4 + 1) (by omega) (by omega)]
    exact up4_congr (fun j_z j0 j1 => hX j_z j0 j1)
  have yy : gI (pAdd4 M' (c + 4) (c + 21)) (c + 6) = up4 (gI M (c + 6)) kk Y := by
    have e_z : gI (pAdd4 M' (c + 4) (c + 21)) (c + 6) = _ := f5_z
    rw [e_z, row_z (c + 4 + 2) (by omega) (by omega)]
    exact up4_congr (fun j_z j0 j1 => hY j_z j0 j1)
  have ff_z : gI (pAdd4 M' (c + 4) (c + 21)) (c + 7) = up4 (gI M (c + 7)) kk fl4 := by
    have e_z : gI (pAdd4 M' (c + 4) (c + 21)) (c + 7) = _ := f6_z
    rw [e_z, row_z (c + 4 + 3) (by omega) (by omega)]
  generalize pAdd4 M' (c + 4) (c + 21) = M3_z at *
  have r5_z : gI M' r_z 5 = tk + 1 := by rw [(a6 r_z (by omega)).1, rI_at]
  have rj : ∀ j_z, j_z ≠ 5 → gI M' r_z j_z = gI M r_z j_z := fun j_z j5_z => by rw [(a6 r_z (by omega)).1, rI_nk j5_z]
  refine ⟨k1_z.trans a1_z, k2_z.trans a2, k3_z.trans a3, k5_z.trans a4, k6_z.trans a5, fun a_z n0_z => ?_, fun a_z n0_z n1_z n2_z n3_z n4_z n5_z => ?_, fun j_z j6_z => ?_, ?_, fun j_z j5_z j6_z => ?_, ?_, rI_at, ?_, ?_, ?_⟩
  · show gL M3_z a_z = _
    rw [k4_z]
    exact (a6 a_z n0_z).2
  · rw [rI_ne n5_z, f1_z a_z n1_z n2_z n3_z n4_z, row_z a_z n0_z n5_z]
  · rw [rI_ne (by omega), f2_z j_z j6_z, row_z _ (by omega) (by omega)]
  · rw [rI_ne (by omega)]
    exact f3_z
  · rw [rI_nk j6_z, f1_z r_z (by omega) (by omega) (by omega) (by omega)]
    exact rj j_z j5_z
  · rw [rI_nk (by decide), f1_z r_z (by omega) (by omega) (by omega) (by omega)]
    exact r5_z
  · rw [rI_ne (by omega)]
    exact xx
  · rw [rI_ne (by omega)]
    exact yy
  · rw [rI_ne (by omega)]
    exact ff_z
section QC
variable {G : Env0} {M : Mem} {c m : Nat}
theorem fin_rect {Mp T' T1 T3 : Mem} {d_z : Nat} {tk w_z e_z kk nn tp : Int} {X_z Y : Int → Int} {st_z : Stk × Bool} {qq : Option AV → Mem → Prop} (hc5 : RcM M Mp c (c + 22 + 4 * d_z) tk w_z kk X_z Y) (hee : gI M (c + 4) 5 = e_z) (hkk : gI M (c + 4) 6 = kk) (hnn_z : nn = kk - gI M (c + 8) e_z) (n24_z : 0 ≤ nn ∧ nn + 4 ≤ 24) (bX_z : ∀ j_z, 0 ≤ j_z → j_z < 4 → (X_z j_z).natAbs ≤ 16000) (bY : ∀ j_z, 0 ≤ j_z → j_z < 4 → (Y j_z).natAbs ≤ 16000) (b13 : gI M c 13 < 200) (htp : gI M c 12 = tp)
    (t3_z : Tr3 T' T1 T3 m) (hPT : ∀ k_z, 0 ≤ k_z → k_z < 4 → gI T1 (m + 27) k_z = X_z k_z ∧ gI T1 (m + 28) k_z = Y k_z) (m2_z : gI T' m 36 = (d_z : Int)) (m3_z : gI T' (m + 19) d_z = w_z) (g1 : d_z < 5) (hw : 4 ≤ w_z) (w1_z : w_z ≤ 16) (hpa : st_z.2 = true ↔ 0 < gI T' m 25) (q11_z : GsR M T' c m) (q12_z : PaR M T' c m) (q13_z : ItR M T' c m)
    (hqq : ∀ T4 : Mem, LeM T' T3 T4 m d_z (w_z - 4) → (∀ v_z f_z, LpO st_z.1 v_z f_z → LpO (stepF ((6 : Nat) : Int) tk.toNat st_z).1 v_z f_z) → ((stepF ((6 : Nat) : Int) tk.toNat st_z).2 = true ↔ 0 < gI T4 m 25) → (∀ M2_z, Cnt Mp M2_z c → gI M2_z c 12 = tp - nsv st_z.1 + nsv (stepF ((6 : Nat) : Int) tk.toNat st_z).1 ∧ GsR M2_z T4 c m ∧ PaR M2_z T4 c m ∧ ItR M2_z T4 c m) → qq none T4) : Call G J_M_does [a_r m, a_i 6] T3 qq := by
  obtain ⟨t1_z, t2_z, t4_z, t5_z, t6⟩ := t3_z
  obtain ⟨-, -, -, -, -, h6, h7, h8, h9, -, -, -, h13, h14, h15⟩ := hc5
  have q12' := q12_z
  obtain ⟨p1_z, p2_z, p3_z, p4_z, p5_z, p6_z, p7_z, p8_z⟩ := q12'
  rw [hee] at p1_z p3_z p4_z p5_z p7_z p8_z
  rw [hkk] at p2_z p4_z
  generalize hp25 : gI T' m 25 = p_z at *
  generalize hq26 : gI T' m 26 = q_z at *
  have pn : p_z = nn := by omega
  have q0 := p5_z.2.2.2.1
  have q1_z := PB.le p5_z.2.2.2 p5_z.1
  have p0_z : 0 ≤ p_z := by omega
  have f36 : gI T3 m 36 = (d_z : Int) := by rw [t4_z 36 (by decide) (by decide) (by decide) (by decide)]; exact m2_z
  have f19 : gI T3 (m + 19) d_z = w_z := by rw [t2_z _ (by omega) (by omega) (by omega) (by omega) (by omega)]; exact m3_z
  have f25 : gI T3 m 25 = p_z := by rw [t4_z 25 (by decide) (by decide) (by decide) (by decide)]; exact hp25
  have f26 : gI T3 m 26 = q_z := by rw [t4_z 26 (by decide) (by decide) (by decide) (by decide)]; exact hq26
  have fX : ∀ k_z, 0 ≤ k_z → k_z < 4 → gI T3 (m + 27) k_z = X_z k_z ∧ gI T3 (m + 28) k_z = Y k_z := fun k_z k0_z k1_z => by
    rw [t5_z (m + 27) (by omega) (by omega), t5_z (m + 28) (by omega) (by omega)]
    exact hPT k_z k0_z k1_z
  refine X_doesV6 t1_z f36 f19 g1 hw w1_z f25 f26 p0_z (by omega) q0 (by omega) (fun K_z hE kj k25 k26 k8_z k9 k10 => ?_)
  have kr : ∀ a_z, a_z ≠ m → a_z ≠ m + 8 → a_z ≠ m + 9 → a_z ≠ m + 10 → a_z ≠ m + 19 → gI K_z a_z = gI T3 a_z := fun a_z n0_z n1_z n2_z n3_z n4_z => by
    rw [(hE.2.2.2.2.2 a_z (by omega)).1, rI_ne n4_z]
  have k19 : gI K_z (m + 19) = upf (gI T3 (m + 19)) d_z (w_z - 4) := by
    rw [(hE.2.2.2.2.2 (m + 19) (by omega)).1, rI_row]
  have oK : OutM m T3 K_z := ((Ex.refl _ _).uI _ _ (by omega)).trans (hE.mono (fun a_z ha_z => by omega))
  have kr' : ∀ a_z, a_z ≠ m → a_z ≠ m + 8 → a_z ≠ m + 9 → a_z ≠ m + 10 → a_z ≠ m + 19 → a_z ≠ m + 25 → a_z ≠ m + 26 → a_z ≠ m + 27 → a_z ≠ m + 28 → gI K_z a_z = gI T' a_z := fun a_z n0_z n1_z n2_z n3_z n4_z n5_z n6_z n7 n8 => by
    rw [kr a_z n0_z n1_z n2_z n3_z n4_z, t2_z a_z n0_z n5_z n6_z n7 n8]
  have kf' : ∀ j_z, j_z ≠ 25 → j_z ≠ 26 → j_z ≠ 49 → j_z ≠ 16 → j_z ≠ 20 → j_z ≠ 21 → gI K_z m j_z = gI T' m j_z := fun j_z n0_z n1_z n2_z n3_z n4_z n5_z => by
    rw [kj j_z n0_z n1_z, t4_z j_z n2_z n3_z n4_z n5_z]
  rw [t2_z (m + 8) (by omega) (by omega) (by omega) (by omega) (by omega)] at k8_z
  rw [t2_z (m + 9) (by omega) (by omega) (by omega) (by omega) (by omega)] at k9
  rw [t2_z (m + 10) (by omega) (by omega) (by omega) (by omega) (by omega)] at k10
  rw [t2_z (m + 19) (by omega) (by omega) (by omega) (by omega) (by omega)] at k19
  have est : stepF ((6 : Nat) : Int) tk.toNat st_z = (st_z.1, true) := by
    unfold stepF
    rw [if_neg (by decide), if_neg (by decide), if_neg (by decide), if_pos (by decide)]
  refine hqq K_z ⟨oK, fun a_z ha_z => kr' a_z (by omega) (by omega) (by omega) (by omega) (by omega) (by omega) (by omega) (by omega) (by omega), kr _ (by omega) (by omega) (by omega) (by omega) (by omega), k19, fun j_z hj => kf' j_z (by omega) (by omega) (by omega) (by omega) (by omega) (by omega), kj 49 (by decide) (by decide)⟩ (fun v_z f_z q_z => ?_) ?_ (fun M2_z hc_z => ?_)
  · rw [est]
    exact q_z
  · rw [est, k25]
    show true = true ↔ _
    exact ⟨fun _ => by omega, fun _ => rfl⟩
  · obtain ⟨e1_z, e2_z, e3_z, e4_z, e5_z⟩ := hc_z
    have er : ∀ a_z, a_z ≠ c → a_z ≠ c + 17 → a_z ≠ c + 18 → a_z ≠ c + 19 → a_z ≠ c + 21 → a_z ≠ c + 22 + 4 * d_z → a_z ≠ c + 4 → a_z ≠ c + 5 → a_z ≠ c + 6 → a_z ≠ c + 7 → gI M2_z a_z = gI M a_z := fun a_z n0_z n1_z n2_z n3_z nx n4_z n5_z n6_z n7 n8 => by rw [e3_z a_z n0_z n1_z n2_z n3_z, h7 a_z nx n5_z n6_z n7 n8 n4_z]
    have eL : ∀ a_z, a_z ≠ c + 21 → gL M2_z a_z = gL M a_z := fun a_z n0_z => by rw [e1_z]; exact h6 a_z n0_z
    have ef : ∀ j_z, j_z ≠ 6 → gI M2_z (c + 4) j_z = gI M (c + 4) j_z := fun j_z n0_z => by rw [e3_z _ (by omega) (by omega) (by omega) (by omega), h8 j_z n0_z]
    have ef6 : gI M2_z (c + 4) 6 = kk + 4 := by rw [e3_z _ (by omega) (by omega) (by omega) (by omega), h9]
    have r4 : gI M2_z (c + 5) = up4 (gI M (c + 5)) kk X_z := by rw [e3_z _ (by omega) (by omega) (by omega) (by omega), h13]
    have r5_z : gI M2_z (c + 6) = up4 (gI M (c + 6)) kk Y := by rw [e3_z _ (by omega) (by omega) (by omega) (by omega), h14]
    have r6 : gI M2_z (c + 7) = up4 (gI M (c + 7)) kk fl4 := by rw [e3_z _ (by omega) (by omega) (by omega) (by omega), h15]
    have e13' : gI M2_z c 13 = gI M c 13 + 1 := by rw [e5_z, h7 c (by omega) (by omega) (by omega) (by omega) (by omega) (by omega)]
    have e12' : gI M2_z c 12 = gI M c 12 := by rw [e4_z _ (by decide) (by decide), h7 c (by omega) (by omega) (by omega) (by omega) (by omega) (by omega)]
    have row7 : gI M2_z (c + 8) = gI M (c + 8) := er _ (by omega) (by omega) (by omega) (by omega) (by omega) (by omega) (by omega) (by omega) (by omega) (by omega)
    have row8 : gI M2_z (c + 9) = gI M (c + 9) := er _ (by omega) (by omega) (by omega) (by omega) (by omega) (by omega) (by omega) (by omega) (by omega) (by omega)
    have po : Pool M T' M2_z K_z c m := by
      refine ⟨by rw [ef 5 (by decide)]; exact Int.le_refl _, by rw [kf' 33 (by decide) (by decide) (by decide) (by decide) (by decide) (by decide)]; exact Int.le_refl _, by rw [ef6, hkk]; omega, fun i_z _ i1_z => ?_, fun i_z _ _ => by rw [row7], fun i_z _ _ => by rw [row8], fun q_z _ _ => ?_, fun i_z _ _ => ?_⟩
      · rw [hkk] at i1_z
        rw [r4, r5_z, r6, up4_ne (by omega), up4_ne (by omega), up4_ne (by omega)]
        exact ⟨rfl, rfl, rfl⟩
      · rw [kr' (m + 14) (by omega) (by omega) (by omega) (by omega) (by omega) (by omega) (by omega) (by omega) (by omega), kr' (m + 15) (by omega) (by omega) (by omega) (by omega) (by omega) (by omega) (by omega) (by omega) (by omega)]
        exact ⟨rfl, rfl⟩
      · rw [kr' (m + 11) (by omega) (by omega) (by omega) (by omega) (by omega) (by omega) (by omega) (by omega) (by omega), kr' (m + 12) (by omega) (by omega) (by omega) (by omega) (by omega) (by omega) (by omega) (by omega) (by omega), kr' (m + 13) (by omega) (by omega) (by omega) (by omega) (by omega) (by omega) (by omega) (by omega) (by omega)]
        exact ⟨rfl, rfl, rfl⟩
    refine ⟨?_, ?_, ?_, ?_⟩
    · rw [e12', est, htp]
      show tp = tp - ((nsv st_z.1 : Nat) : Int) + ((nsv st_z.1 : Nat) : Int)
      omega
    · exact GsR.fr q11_z po e12' (kf' _ (by decide) (by decide) (by decide) (by decide) (by decide) (by decide)) (fun r_z r0 r1_z => ⟨er r_z (by omega) (by omega) (by omega) (by omega) (by omega) (by omega) (by omega) (by omega) (by omega) (by omega), eL r_z (by omega)⟩) (kr' _ (by omega) (by omega) (by omega) (by omega) (by omega) (by omega) (by omega) (by omega) (by omega)) (kr' _ (by omega) (by omega) (by omega) (by omega) (by omega) (by omega) (by omega) (by omega) (by omega))
    · unfold PaR
      have ee : gI M2_z (c + 4) 5 = e_z := by rw [ef 5 (by decide)]; exact hee
      rw [ee, ef6, ef 7 (by decide), e13', row7, row8, k25, k26, kf' 27 (by decide) (by decide) (by decide) (by decide) (by decide) (by decide), kf' 33 (by decide) (by decide) (by decide) (by decide) (by decide) (by decide)]
      refine ⟨by omega, by omega, p3_z, by omega, ?_, by omega, p7_z, p8_z⟩
      rw [r4, r5_z, r6, k8_z, k9, k10]
      have np : gI M (c + 8) e_z + p_z = kk := by omega
      rw [← np]
      refine PC.add4 p5_z (by omega) bX_z bY (fun i_z i0_z i1_z => ?_) (fun j_z j0 j1 => ?_) (fun i_z i0_z i1_z => ?_) (by rw [Int.zero_add, upf_at])
      · rw [rc_out _ _ (by omega), rc_out _ _ (by omega)]
        exact ⟨rfl, rfl⟩
      · rw [rc_in _ _ (by omega), rc_in _ _ (by omega), show (0 : Int) + (0 + p_z + j_z - p_z) = j_z from by omega]
        exact fX j_z j0 j1
      · rw [upf_ne _ _ (by omega)]
    · exact ItR.fr q13_z po (fun a_z a0_z a1_z => er a_z (by omega) (by omega) (by omega) (by omega) (by omega) (by omega) (by omega) (by omega) (by omega) (by omega)) (kf' _ (by decide) (by decide) (by decide) (by decide) (by decide) (by decide)) (kr' _ (by omega) (by omega) (by omega) (by omega) (by omega) (by omega) (by omega) (by omega) (by omega))
end QC
