/-! THE PURE PART, part 13: what is left when a point was added. Own work (partly written by a program of its own). -/
section QA
variable {G : Env0} {M : Mem} {c m : Nat}
theorem fin_move {T' T1 T3 : Mem} {d_z : Nat} {tk w_z e_z kk nn X_z Y tp : Int} {st_z : Stk × Bool} {qq : Option AV → Mem → Prop} (hee : gI M (c + 4) 5 = e_z) (hkk : gI M (c + 4) 6 = kk) (hnn_z : nn = kk - gI M (c + 8) e_z) (n24_z : 0 ≤ nn ∧ nn ≤ 24) (bad_z : ¬ (nn = 24 ∨ X_z = 16001 ∨ Y = 16001)) (bX_z : X_z.natAbs ≤ 16000) (bY : Y.natAbs ≤ 16000) (b13 : gI M c 13 < 200) (htp : gI M c 12 = tp)
    (t3_z : Tr3 T' T1 T3 m) (hPT : gI T1 m 20 = X_z ∧ gI T1 m 21 = Y) (m2_z : gI T' m 36 = (d_z : Int)) (m3_z : gI T' (m + 19) d_z = w_z) (g1 : d_z < 5) (hw : 2 ≤ w_z) (w1_z : w_z ≤ 16) (hleg : legal ((3 : Nat) : Int) st_z) (hpa : st_z.2 = true ↔ 0 < gI T' m 25) (q11_z : GsR M T' c m) (q12_z : PaR M T' c m) (q13_z : ItR M T' c m)
    (hqq : ∀ T4 : Mem, LeM T' T3 T4 m d_z (w_z - 2) → (∀ v_z f_z, LpO st_z.1 v_z f_z → LpO (stepF ((3 : Nat) : Int) tk.toNat st_z).1 v_z f_z) → ((stepF ((3 : Nat) : Int) tk.toNat st_z).2 = true ↔ 0 < gI T4 m 25) → (∀ M2_z, Cnt (uI (uI (uI (uI (uI (uI M (c + 22 + 4 * d_z) 5 (tk + 1)) (c + 5) kk X_z) (c + 6) kk Y) (c + 7) kk 1) (c + 4) 6 (kk + 1)) (c + 22 + 4 * d_z) 6 (w_z - 2)) M2_z c → gI M2_z c 12 = tp - nsv st_z.1 + nsv (stepF ((3 : Nat) : Int) tk.toNat st_z).1 ∧ GsR M2_z T4 c m ∧ PaR M2_z T4 c m ∧ ItR M2_z T4 c m) → qq none T4) : Call G J_M_does [a_r m, a_i 3] T3 qq := by
  obtain ⟨t1_z, t2_z, t4_z, t5_z, t6⟩ := t3_z
  have q12' := q12_z
  obtain ⟨p1_z, p2_z, p3_z, p4_z, p5_z, p6_z, p7_z, p8_z⟩ := q12'
  rw [hee] at p1_z p3_z p4_z p5_z p7_z p8_z
  rw [hkk] at p2_z p4_z
  generalize hp25 : gI T' m 25 = p_z at *
  generalize hq26 : gI T' m 26 = q_z at *
  have pn : p_z = nn := by omega
  have q0 := p5_z.2.2.2.1
  have q1_z := PB.le p5_z.2.2.2 p5_z.1
  have p0_z : 0 ≤ p_z := by omega
  have f36 : gI T3 m 36 = (d_z : Int) := by rw [t4_z 36 (by decide) (by decide) (by decide) (by decide)]; exact m2_z
  have f19 : gI T3 (m + 19) d_z = w_z := by rw [t2_z _ (by omega) (by omega) (by omega) (by omega) (by omega)]; exact m3_z
  have f25 : gI T3 m 25 = p_z := by rw [t4_z 25 (by decide) (by decide) (by decide) (by decide)]; exact hp25
  have f26 : gI T3 m 26 = q_z := by rw [t4_z 26 (by decide) (by decide) (by decide) (by decide)]; exact hq26
  have fX : gI T3 m 20 = X_z := by rw [t6 20 (by decide)]; exact hPT.1
  have fY : gI T3 m 21 = Y := by rw [t6 21 (by decide)]; exact hPT.2
  refine X_doesV3 t1_z f36 f19 g1 hw w1_z f25 f26 p0_z (by omega) q0 (by omega) fX fY ?_
  have kf : ∀ j_z, j_z ≠ 25 → j_z ≠ 26 → gI (uI (uI (uI (uI (uI (uI T3 (m + 19) d_z (w_z - 2)) (m + 10) q_z p_z) m 26 (q_z + 1)) (m + 8) p_z X_z) (m + 9) p_z Y) m 25 (p_z + 1)) m j_z = gI T3 m j_z := fun j_z n0_z n1_z => by
    rw [rI_nk n0_z, rI_ne (by omega), rI_ne (by omega), rI_nk n1_z, rI_ne (by omega), rI_ne (by omega)]
  have kr : ∀ a_z, a_z ≠ m → a_z ≠ m + 8 → a_z ≠ m + 9 → a_z ≠ m + 10 → a_z ≠ m + 19 → gI (uI (uI (uI (uI (uI (uI T3 (m + 19) d_z (w_z - 2)) (m + 10) q_z p_z) m 26 (q_z + 1)) (m + 8) p_z X_z) (m + 9) p_z Y) m 25 (p_z + 1)) a_z = gI T3 a_z := fun a_z n0_z n1_z n2_z n3_z n4_z => by
    rw [rI_ne n0_z, rI_ne n2_z, rI_ne n1_z, rI_ne n0_z, rI_ne n3_z, rI_ne n4_z]
  have k8_z : gI (uI (uI (uI (uI (uI (uI T3 (m + 19) d_z (w_z - 2)) (m + 10) q_z p_z) m 26 (q_z + 1)) (m + 8) p_z X_z) (m + 9) p_z Y) m 25 (p_z + 1)) (m + 8) = upf (gI T3 (m + 8)) p_z X_z := by
    rw [rI_ne (by omega), rI_ne (by omega), rI_row, rI_ne (by omega), rI_ne (by omega), rI_ne (by omega)]
  have k9 : gI (uI (uI (uI (uI (uI (uI T3 (m + 19) d_z (w_z - 2)) (m + 10) q_z p_z) m 26 (q_z + 1)) (m + 8) p_z X_z) (m + 9) p_z Y) m 25 (p_z + 1)) (m + 9) = upf (gI T3 (m + 9)) p_z Y := by
    rw [rI_ne (by omega), rI_row, rI_ne (by omega), rI_ne (by omega), rI_ne (by omega), rI_ne (by omega)]
  have k10 : gI (uI (uI (uI (uI (uI (uI T3 (m + 19) d_z (w_z - 2)) (m + 10) q_z p_z) m 26 (q_z + 1)) (m + 8) p_z X_z) (m + 9) p_z Y) m 25 (p_z + 1)) (m + 10) = upf (gI T3 (m + 10)) q_z p_z := by
    rw [rI_ne (by omega), rI_ne (by omega), rI_ne (by omega), rI_ne (by omega), rI_row, rI_ne (by omega)]
  have k19 : gI (uI (uI (uI (uI (uI (uI T3 (m + 19) d_z (w_z - 2)) (m + 10) q_z p_z) m 26 (q_z + 1)) (m + 8) p_z X_z) (m + 9) p_z Y) m 25 (p_z + 1)) (m + 19) = upf (gI T3 (m + 19)) d_z (w_z - 2) := by
    rw [rI_ne (by omega), rI_ne (by omega), rI_ne (by omega), rI_ne (by omega), rI_ne (by omega), rI_row]
  have k25 : gI (uI (uI (uI (uI (uI (uI T3 (m + 19) d_z (w_z - 2)) (m + 10) q_z p_z) m 26 (q_z + 1)) (m + 8) p_z X_z) (m + 9) p_z Y) m 25 (p_z + 1)) m 25 = p_z + 1 := rI_at
  have k26 : gI (uI (uI (uI (uI (uI (uI T3 (m + 19) d_z (w_z - 2)) (m + 10) q_z p_z) m 26 (q_z + 1)) (m + 8) p_z X_z) (m + 9) p_z Y) m 25 (p_z + 1)) m 26 = q_z + 1 := by
    rw [rI_nk (by decide), rI_ne (by omega), rI_ne (by omega), rI_at]
  have oK : OutM m T3 (uI (uI (uI (uI (uI (uI T3 (m + 19) d_z (w_z - 2)) (m + 10) q_z p_z) m 26 (q_z + 1)) (m + 8) p_z X_z) (m + 9) p_z Y) m 25 (p_z + 1)) := ((((((Ex.refl _ _).uI _ _ (by omega)).uI _ _ (by omega)).uI _ _ (by omega)).uI _ _ (by omega)).uI _ _ (by omega)).uI _ _ (by omega)
  generalize uI (uI (uI (uI (uI (uI T3 (m + 19) d_z (w_z - 2)) (m + 10) q_z p_z) m 26 (q_z + 1)) (m + 8) p_z X_z) (m + 9) p_z Y) m 25 (p_z + 1) = K_z at *
  have kr' : ∀ a_z, a_z ≠ m → a_z ≠ m + 8 → a_z ≠ m + 9 → a_z ≠ m + 10 → a_z ≠ m + 19 → a_z ≠ m + 25 → a_z ≠ m + 26 → a_z ≠ m + 27 → a_z ≠ m + 28 → gI K_z a_z = gI T' a_z := fun a_z n0_z n1_z n2_z n3_z n4_z n5_z n6_z n7 n8 => by
    rw [kr a_z n0_z n1_z n2_z n3_z n4_z, t2_z a_z n0_z n5_z n6_z n7 n8]
  have kf' : ∀ j_z, j_z ≠ 25 → j_z ≠ 26 → j_z ≠ 49 → j_z ≠ 16 → j_z ≠ 20 → j_z ≠ 21 → gI K_z m j_z = gI T' m j_z := fun j_z n0_z n1_z n2_z n3_z n4_z n5_z => by
    rw [kf j_z n0_z n1_z, t4_z j_z n2_z n3_z n4_z n5_z]
  rw [t2_z (m + 8) (by omega) (by omega) (by omega) (by omega) (by omega)] at k8_z
  rw [t2_z (m + 9) (by omega) (by omega) (by omega) (by omega) (by omega)] at k9
  rw [t2_z (m + 10) (by omega) (by omega) (by omega) (by omega) (by omega)] at k10
  rw [t2_z (m + 19) (by omega) (by omega) (by omega) (by omega) (by omega)] at k19
  have est : stepF ((3 : Nat) : Int) tk.toNat st_z = (st_z.1, true) := by
    unfold stepF
    rw [if_neg (by decide), if_neg (by decide), if_neg (by decide), if_pos (by decide)]
  refine hqq K_z ⟨oK, fun a_z ha_z => kr' a_z (by omega) (by omega) (by omega) (by omega) (by omega) (by omega) (by omega) (by omega) (by omega), kr _ (by omega) (by omega) (by omega) (by omega) (by omega), k19, fun j_z hj => kf' j_z (by omega) (by omega) (by omega) (by omega) (by omega) (by omega), kf 49 (by decide) (by decide)⟩ (fun v_z f_z q_z => ?_) ?_ (fun M2_z hc_z => ?_)
  · rw [est]
    exact q_z
  · rw [est, k25]
    show true = true ↔ _
    exact ⟨fun _ => by omega, fun _ => rfl⟩
  · obtain ⟨e1_z, e2_z, e3_z, e4_z, e5_z⟩ := hc_z
    have er : ∀ a_z, a_z ≠ c → a_z ≠ c + 17 → a_z ≠ c + 18 → a_z ≠ c + 19 → a_z ≠ c + 22 + 4 * d_z → a_z ≠ c + 4 → a_z ≠ c + 5 → a_z ≠ c + 6 → a_z ≠ c + 7 → gI M2_z a_z = gI M a_z := fun a_z n0_z n1_z n2_z n3_z n4_z n5_z n6_z n7 n8 => by rw [e3_z a_z n0_z n1_z n2_z n3_z, rI_ne n4_z, rI_ne n5_z, rI_ne n8, rI_ne n7, rI_ne n6_z, rI_ne n4_z]
    have eL : gL M2_z = gL M := e1_z
    have ef : ∀ j_z, j_z ≠ 6 → gI M2_z (c + 4) j_z = gI M (c + 4) j_z := fun j_z n0_z => by rw [e3_z _ (by omega) (by omega) (by omega) (by omega), rI_ne (by omega), rI_nk n0_z, rI_ne (by omega), rI_ne (by omega), rI_ne (by omega), rI_ne (by omega)]
    have ef6 : gI M2_z (c + 4) 6 = kk + 1 := by rw [e3_z _ (by omega) (by omega) (by omega) (by omega), rI_ne (by omega), rI_at]
    have r4 : gI M2_z (c + 5) = upf (gI M (c + 5)) kk X_z := by rw [e3_z _ (by omega) (by omega) (by omega) (by omega), rI_ne (by omega), rI_ne (by omega), rI_ne (by omega), rI_ne (by omega), rI_row, rI_ne (by omega)]
    have r5_z : gI M2_z (c + 6) = upf (gI M (c + 6)) kk Y := by rw [e3_z _ (by omega) (by omega) (by omega) (by omega), rI_ne (by omega), rI_ne (by omega), rI_ne (by omega), rI_row, rI_ne (by omega), rI_ne (by omega)]
    have r6 : gI M2_z (c + 7) = upf (gI M (c + 7)) kk 1 := by rw [e3_z _ (by omega) (by omega) (by omega) (by omega), rI_ne (by omega), rI_ne (by omega), rI_row, rI_ne (by omega), rI_ne (by omega), rI_ne (by omega)]
    have e13' : gI M2_z c 13 = gI M c 13 + 1 := by rw [e5_z, rI_ne (by omega), rI_ne (by omega), rI_ne (by omega), rI_ne (by omega), rI_ne (by omega), rI_ne (by omega)]
    have e12' : gI M2_z c 12 = gI M c 12 := by rw [e4_z _ (by decide) (by decide), rI_ne (by omega), rI_ne (by omega), rI_ne (by omega), rI_ne (by omega), rI_ne (by omega), rI_ne (by omega)]
    have row7 : gI M2_z (c + 8) = gI M (c + 8) := er _ (by omega) (by omega) (by omega) (by omega) (by omega) (by omega) (by omega) (by omega) (by omega)
    have row8 : gI M2_z (c + 9) = gI M (c + 9) := er _ (by omega) (by omega) (by omega) (by omega) (by omega) (by omega) (by omega) (by omega) (by omega)
    have po : Pool M T' M2_z K_z c m := by
      refine ⟨by rw [ef 5 (by decide)]; exact Int.le_refl _, by rw [kf' 33 (by decide) (by decide) (by decide) (by decide) (by decide) (by decide)]; exact Int.le_refl _, by rw [ef6, hkk]; omega, fun i_z _ i1_z => ?_, fun i_z _ _ => by rw [row7], fun i_z _ _ => by rw [row8], fun q_z _ _ => ?_, fun i_z _ _ => ?_⟩
      · rw [hkk] at i1_z
        rw [r4, r5_z, r6, upf_ne _ _ (by omega), upf_ne _ _ (by omega), upf_ne _ _ (by omega)]
        exact ⟨rfl, rfl, rfl⟩
      · rw [kr' (m + 14) (by omega) (by omega) (by omega) (by omega) (by omega) (by omega) (by omega) (by omega) (by omega), kr' (m + 15) (by omega) (by omega) (by omega) (by omega) (by omega) (by omega) (by omega) (by omega) (by omega)]
        exact ⟨rfl, rfl⟩
      · rw [kr' (m + 11) (by omega) (by omega) (by omega) (by omega) (by omega) (by omega) (by omega) (by omega) (by omega), kr' (m + 12) (by omega) (by omega) (by omega) (by omega) (by omega) (by omega) (by omega) (by omega) (by omega), kr' (m + 13) (by omega) (by omega) (by omega) (by omega) (by omega) (by omega) (by omega) (by omega) (by omega)]
        exact ⟨rfl, rfl, rfl⟩
    refine ⟨?_, ?_, ?_, ?_⟩
    · rw [e12', est, htp]
      show tp = tp - ((nsv st_z.1 : Nat) : Int) + ((nsv st_z.1 : Nat) : Int)
      omega
    · exact GsR.fr q11_z po e12' (kf' _ (by decide) (by decide) (by decide) (by decide) (by decide) (by decide)) (fun r_z r0 r1_z => ⟨er r_z (by omega) (by omega) (by omega) (by omega) (by omega) (by omega) (by omega) (by omega) (by omega), by rw [eL]⟩) (kr' _ (by omega) (by omega) (by omega) (by omega) (by omega) (by omega) (by omega) (by omega) (by omega)) (kr' _ (by omega) (by omega) (by omega) (by omega) (by omega) (by omega) (by omega) (by omega) (by omega))
    · unfold PaR
      have ee : gI M2_z (c + 4) 5 = e_z := by rw [ef 5 (by decide)]; exact hee
      rw [ee, ef6, ef 7 (by decide), e13', row7, row8, k25, k26, kf' 27 (by decide) (by decide) (by decide) (by decide) (by decide) (by decide), kf' 33 (by decide) (by decide) (by decide) (by decide) (by decide) (by decide)]
      refine ⟨by omega, by omega, p3_z, by omega, ?_, by omega, p7_z, p8_z⟩
      rw [r4, r5_z, r6, k8_z, k9, k10]
      have np : gI M (c + 8) e_z + p_z = kk := by omega
      refine PC.add (X_z := X_z) (Y := Y) p5_z (by omega) (fun i_z i0_z i1_z => ?_) (fun i_z i0_z i1_z => ?_) (fun i_z i0_z i1_z => ?_) (by rw [np, upf_at]) (by rw [np, upf_at]) (by rw [Int.zero_add, upf_at]) (by rw [Int.zero_add, upf_at]) bX_z bY ?_
      · rw [upf_ne _ _ (by omega), upf_ne _ _ (by omega), upf_ne _ _ (by omega)]
        exact ⟨rfl, rfl, rfl⟩
      · rw [upf_ne _ _ (by omega), upf_ne _ _ (by omega)]
        exact ⟨rfl, rfl⟩
      · rw [upf_ne _ _ (by omega)]
      · exact Or.inl ⟨by rw [np, upf_at], rfl, by rw [Int.zero_add, upf_at]⟩
    · exact ItR.fr q13_z po (fun a_z a0_z a1_z => er a_z (by omega) (by omega) (by omega) (by omega) (by omega) (by omega) (by omega) (by omega) (by omega)) (kf' _ (by decide) (by decide) (by decide) (by decide) (by decide) (by decide)) (kr' _ (by omega) (by omega) (by omega) (by omega) (by omega) (by omega) (by omega) (by omega) (by omega))
theorem fin_line {T' T1 T3 : Mem} {d_z : Nat} {tk w_z e_z kk nn X_z Y tp : Int} {st_z : Stk × Bool} {qq : Option AV → Mem → Prop} (hee : gI M (c + 4) 5 = e_z) (hkk : gI M (c + 4) 6 = kk) (hnn_z : nn = kk - gI M (c + 8) e_z) (n24_z : 0 ≤ nn ∧ nn ≤ 24) (bad_z : ¬ (nn = 24 ∨ X_z = 16001 ∨ Y = 16001)) (bX_z : X_z.natAbs ≤ 16000) (bY : Y.natAbs ≤ 16000) (b13 : gI M c 13 < 200) (htp : gI M c 12 = tp)
    (t3_z : Tr3 T' T1 T3 m) (hPT : gI T1 m 20 = X_z ∧ gI T1 m 21 = Y) (m2_z : gI T' m 36 = (d_z : Int)) (m3_z : gI T' (m + 19) d_z = w_z) (g1 : d_z < 5) (hw : 2 ≤ w_z) (w1_z : w_z ≤ 16) (hleg : legal ((4 : Nat) : Int) st_z) (hpa : st_z.2 = true ↔ 0 < gI T' m 25) (q11_z : GsR M T' c m) (q12_z : PaR M T' c m) (q13_z : ItR M T' c m)
    (hqq : ∀ T4 : Mem, LeM T' T3 T4 m d_z (w_z - 2) → (∀ v_z f_z, LpO st_z.1 v_z f_z → LpO (stepF ((4 : Nat) : Int) tk.toNat st_z).1 v_z f_z) → ((stepF ((4 : Nat) : Int) tk.toNat st_z).2 = true ↔ 0 < gI T4 m 25) → (∀ M2_z, Cnt (uI (uI (uI (uI (uI (uI M (c + 22 + 4 * d_z) 5 (tk + 1)) (c + 5) kk X_z) (c + 6) kk Y) (c + 7) kk 0) (c + 4) 6 (kk + 1)) (c + 22 + 4 * d_z) 6 (w_z - 2)) M2_z c → gI M2_z c 12 = tp - nsv st_z.1 + nsv (stepF ((4 : Nat) : Int) tk.toNat st_z).1 ∧ GsR M2_z T4 c m ∧ PaR M2_z T4 c m ∧ ItR M2_z T4 c m) → qq none T4) : Call G J_M_does [a_r m, a_i 4] T3 qq := by
  obtain ⟨t1_z, t2_z, t4_z, t5_z, t6⟩ := t3_z
  have q12' := q12_z
  obtain ⟨p1_z, p2_z, p3_z, p4_z, p5_z, p6_z, p7_z, p8_z⟩ := q12'
  rw [hee] at p1_z p3_z p4_z p5_z p7_z p8_z
  rw [hkk] at p2_z p4_z
  generalize hp25 : gI T' m 25 = p_z at *
  generalize hq26 : gI T' m 26 = q_z at *
  have pn : p_z = nn := by omega
  have q0 := p5_z.2.2.2.1
  have q1_z := PB.le p5_z.2.2.2 p5_z.1
  have p0_z : 0 ≤ p_z := by omega
  have f36 : gI T3 m 36 = (d_z : Int) := by rw [t4_z 36 (by decide) (by decide) (by decide) (by decide)]; exact m2_z
  have f19 : gI T3 (m + 19) d_z = w_z := by rw [t2_z _ (by omega) (by omega) (by omega) (by omega) (by omega)]; exact m3_z
  have f25 : gI T3 m 25 = p_z := by rw [t4_z 25 (by decide) (by decide) (by decide) (by decide)]; exact hp25
  have f26 : gI T3 m 26 = q_z := by rw [t4_z 26 (by decide) (by decide) (by decide) (by decide)]; exact hq26
  have fX : gI T3 m 20 = X_z := by rw [t6 20 (by decide)]; exact hPT.1
  have fY : gI T3 m 21 = Y := by rw [t6 21 (by decide)]; exact hPT.2
  refine X_doesV4 t1_z f36 f19 g1 hw w1_z f25 p0_z (by omega) fX fY ?_
  have kf : ∀ j_z, j_z ≠ 25 → j_z ≠ 26 → gI (uI (uI (uI (uI T3 (m + 19) d_z (w_z - 2)) (m + 8) p_z X_z) (m + 9) p_z Y) m 25 (p_z + 1)) m j_z = gI T3 m j_z := fun j_z n0_z n1_z => by
    rw [rI_nk n0_z, rI_ne (by omega), rI_ne (by omega), rI_ne (by omega)]
  have kr : ∀ a_z, a_z ≠ m → a_z ≠ m + 8 → a_z ≠ m + 9 → a_z ≠ m + 10 → a_z ≠ m + 19 → gI (uI (uI (uI (uI T3 (m + 19) d_z (w_z - 2)) (m + 8) p_z X_z) (m + 9) p_z Y) m 25 (p_z + 1)) a_z = gI T3 a_z := fun a_z n0_z n1_z n2_z n3_z n4_z => by
    rw [rI_ne n0_z, rI_ne n2_z, rI_ne n1_z, rI_ne n4_z]
  have k8_z : gI (uI (uI (uI (uI T3 (m + 19) d_z (w_z - 2)) (m + 8) p_z X_z) (m + 9) p_z Y) m 25 (p_z + 1)) (m + 8) = upf (gI T3 (m + 8)) p_z X_z := by
    rw [rI_ne (by omega), rI_ne (by omega), rI_row, rI_ne (by omega)]
  have k9 : gI (uI (uI (uI (uI T3 (m + 19) d_z (w_z - 2)) (m + 8) p_z X_z) (m + 9) p_z Y) m 25 (p_z + 1)) (m + 9) = upf (gI T3 (m + 9)) p_z Y := by
    rw [rI_ne (by omega), rI_row, rI_ne (by omega), rI_ne (by omega)]
  have k10 : gI (uI (uI (uI (uI T3 (m + 19) d_z (w_z - 2)) (m + 8) p_z X_z) (m + 9) p_z Y) m 25 (p_z + 1)) (m + 10) = gI T3 (m + 10) := by
    rw [rI_ne (by omega), rI_ne (by omega), rI_ne (by omega), rI_ne (by omega)]
  have k19 : gI (uI (uI (uI (uI T3 (m + 19) d_z (w_z - 2)) (m + 8) p_z X_z) (m + 9) p_z Y) m 25 (p_z + 1)) (m + 19) = upf (gI T3 (m + 19)) d_z (w_z - 2) := by
    rw [rI_ne (by omega), rI_ne (by omega), rI_ne (by omega), rI_row]
  have k25 : gI (uI (uI (uI (uI T3 (m + 19) d_z (w_z - 2)) (m + 8) p_z X_z) (m + 9) p_z Y) m 25 (p_z + 1)) m 25 = p_z + 1 := rI_at
  have k26 : gI (uI (uI (uI (uI T3 (m + 19) d_z (w_z - 2)) (m + 8) p_z X_z) (m + 9) p_z Y) m 25 (p_z + 1)) m 26 = q_z := by
    rw [rI_nk (by decide), rI_ne (by omega), rI_ne (by omega), rI_ne (by omega)]
    exact f26
  have oK : OutM m T3 (uI (uI (uI (uI T3 (m + 19) d_z (w_z - 2)) (m + 8) p_z X_z) (m + 9) p_z Y) m 25 (p_z + 1)) := ((((Ex.refl _ _).uI _ _ (by omega)).uI _ _ (by omega)).uI _ _ (by omega)).uI _ _ (by omega)
  generalize uI (uI (uI (uI T3 (m + 19) d_z (w_z - 2)) (m + 8) p_z X_z) (m + 9) p_z Y) m 25 (p_z + 1) = K_z at *
  have kr' : ∀ a_z, a_z ≠ m → a_z ≠ m + 8 → a_z ≠ m + 9 → a_z ≠ m + 10 → a_z ≠ m + 19 → a_z ≠ m + 25 → a_z ≠ m + 26 → a_z ≠ m + 27 → a_z ≠ m + 28 → gI K_z a_z = gI T' a_z := fun a_z n0_z n1_z n2_z n3_z n4_z n5_z n6_z n7 n8 => by
    rw [kr a_z n0_z n1_z n2_z n3_z n4_z, t2_z a_z n0_z n5_z n6_z n7 n8]
  have kf' : ∀ j_z, j_z ≠ 25 → j_z ≠ 26 → j_z ≠ 49 → j_z ≠ 16 → j_z ≠ 20 → j_z ≠ 21 → gI K_z m j_z = gI T' m j_z := fun j_z n0_z n1_z n2_z n3_z n4_z n5_z => by
    rw [kf j_z n0_z n1_z, t4_z j_z n2_z n3_z n4_z n5_z]
  rw [t2_z (m + 8) (by omega) (by omega) (by omega) (by omega) (by omega)] at k8_z
  rw [t2_z (m + 9) (by omega) (by omega) (by omega) (by omega) (by omega)] at k9
  rw [t2_z (m + 10) (by omega) (by omega) (by omega) (by omega) (by omega)] at k10
  rw [t2_z (m + 19) (by omega) (by omega) (by omega) (by omega) (by omega)] at k19
  have est : stepF ((4 : Nat) : Int) tk.toNat st_z = st_z := by
    unfold stepF
    rw [if_neg (by decide), if_neg (by decide), if_neg (by decide), if_neg (by decide), if_neg (by decide)]
  refine hqq K_z ⟨oK, fun a_z ha_z => kr' a_z (by omega) (by omega) (by omega) (by omega) (by omega) (by omega) (by omega) (by omega) (by omega), kr _ (by omega) (by omega) (by omega) (by omega) (by omega), k19, fun j_z hj => kf' j_z (by omega) (by omega) (by omega) (by omega) (by omega) (by omega), kf 49 (by decide) (by decide)⟩ (fun v_z f_z q_z => ?_) ?_ (fun M2_z hc_z => ?_)
  · rw [est]
    exact q_z
  · rw [est, k25]
    rw [hpa]
    exact ⟨fun _ => by omega, fun _ => hpa.mp (hleg.2.2.2.2.2.1 (by decide))⟩
  · obtain ⟨e1_z, e2_z, e3_z, e4_z, e5_z⟩ := hc_z
    have er : ∀ a_z, a_z ≠ c → a_z ≠ c + 17 → a_z ≠ c + 18 → a_z ≠ c + 19 → a_z ≠ c + 22 + 4 * d_z → a_z ≠ c + 4 → a_z ≠ c + 5 → a_z ≠ c + 6 → a_z ≠ c + 7 → gI M2_z a_z = gI M a_z := fun a_z n0_z n1_z n2_z n3_z n4_z n5_z n6_z n7 n8 => by rw [e3_z a_z n0_z n1_z n2_z n3_z, rI_ne n4_z, rI_ne n5_z, rI_ne n8, rI_ne n7, rI_ne n6_z, rI_ne n4_z]
    have eL : gL M2_z = gL M := e1_z
    have ef : ∀ j_z, j_z ≠ 6 → gI M2_z (c + 4) j_z = gI M (c + 4) j_z := fun j_z n0_z => by rw [e3_z _ (by omega) (by omega) (by omega) (by omega), rI_ne (by omega), rI_nk n0_z, rI_ne (by omega), rI_ne (by omega), rI_ne (by omega), rI_ne (by omega)]
    have ef6 : gI M2_z (c + 4) 6 = kk + 1 := by rw [e3_z _ (by omega) (by omega) (by omega) (by omega), rI_ne (by omega), rI_at]
    have r4 : gI M2_z (c + 5) = upf (gI M (c + 5)) kk X_z := by rw [e3_z _ (by omega) (by omega) (by omega) (by omega), rI_ne (by omega), rI_ne (by omega), rI_ne (by omega), rI_ne (by omega), rI_row, rI_ne (by omega)]
    have r5_z : gI M2_z (c + 6) = upf (gI M (c + 6)) kk Y := by rw [e3_z _ (by omega) (by omega) (by omega) (by omega), rI_ne (by omega), rI_ne (by omega), rI_ne (by omega), rI_row, rI_ne (by omega), rI_ne (by omega)]
    have r6 : gI M2_z (c + 7) = upf (gI M (c + 7)) kk 0 := by rw [e3_z _ (by omega) (by omega) (by omega) (by omega), rI_ne (by omega), rI_ne (by omega), rI_row, rI_ne (by omega), rI_ne (by omega), rI_ne (by omega)]
    have e13' : gI M2_z c 13 = gI M c 13 + 1 := by rw [e5_z, rI_ne (by omega), rI_ne (by omega), rI_ne (by omega), rI_ne (by omega), rI_ne (by omega), rI_ne (by omega)]
    have e12' : gI M2_z c 12 = gI M c 12 := by rw [e4_z _ (by decide) (by decide), rI_ne (by omega), rI_ne (by omega), rI_ne (by omega), rI_ne (by omega), rI_ne (by omega), rI_ne (by omega)]
    have row7 : gI M2_z (c + 8) = gI M (c + 8) := er _ (by omega) (by omega) (by omega) (by omega) (by omega) (by omega) (by omega) (by omega) (by omega)
    have row8 : gI M2_z (c + 9) = gI M (c + 9) := er _ (by omega) (by omega) (by omega) (by omega) (by omega) (by omega) (by omega) (by omega) (by omega)
    have po : Pool M T' M2_z K_z c m := by
      refine ⟨by rw [ef 5 (by decide)]; exact Int.le_refl _, by rw [kf' 33 (by decide) (by decide) (by decide) (by decide) (by decide) (by decide)]; exact Int.le_refl _, by rw [ef6, hkk]; omega, fun i_z _ i1_z => ?_, fun i_z _ _ => by rw [row7], fun i_z _ _ => by rw [row8], fun q_z _ _ => ?_, fun i_z _ _ => ?_⟩
      · rw [hkk] at i1_z
        rw [r4, r5_z, r6, upf_ne _ _ (by omega), upf_ne _ _ (by omega), upf_ne _ _ (by omega)]
        exact ⟨rfl, rfl, rfl⟩
      · rw [kr' (m + 14) (by omega) (by omega) (by omega) (by omega) (by omega) (by omega) (by omega) (by omega) (by omega), kr' (m + 15) (by omega) (by omega) (by omega) (by omega) (by omega) (by omega) (by omega) (by omega) (by omega)]
        exact ⟨rfl, rfl⟩
      · rw [kr' (m + 11) (by omega) (by omega) (by omega) (by omega) (by omega) (by omega) (by omega) (by omega) (by omega), kr' (m + 12) (by omega) (by omega) (by omega) (by omega) (by omega) (by omega) (by omega) (by omega) (by omega), kr' (m + 13) (by omega) (by omega) (by omega) (by omega) (by omega) (by omega) (by omega) (by omega) (by omega)]
        exact ⟨rfl, rfl, rfl⟩
    refine ⟨?_, ?_, ?_, ?_⟩
    · rw [e12', est, htp]
      show tp = tp - ((nsv st_z.1 : Nat) : Int) + ((nsv st_z.1 : Nat) : Int)
      omega
    · exact GsR.fr q11_z po e12' (kf' _ (by decide) (by decide) (by decide) (by decide) (by decide) (by decide)) (fun r_z r0 r1_z => ⟨er r_z (by omega) (by omega) (by omega) (by omega) (by omega) (by omega) (by omega) (by omega) (by omega), by rw [eL]⟩) (kr' _ (by omega) (by omega) (by omega) (by omega) (by omega) (by omega) (by omega) (by omega) (by omega)) (kr' _ (by omega) (by omega) (by omega) (by omega) (by omega) (by omega) (by omega) (by omega) (by omega))
    · unfold PaR
      have ee : gI M2_z (c + 4) 5 = e_z := by rw [ef 5 (by decide)]; exact hee
      rw [ee, ef6, ef 7 (by decide), e13', row7, row8, k25, k26, kf' 27 (by decide) (by decide) (by decide) (by decide) (by decide) (by decide), kf' 33 (by decide) (by decide) (by decide) (by decide) (by decide) (by decide)]
      refine ⟨by omega, by omega, p3_z, by omega, ?_, by omega, p7_z, p8_z⟩
      rw [r4, r5_z, r6, k8_z, k9, k10]
      have np : gI M (c + 8) e_z + p_z = kk := by omega
      refine PC.add (X_z := X_z) (Y := Y) p5_z (by omega) (fun i_z i0_z i1_z => ?_) (fun i_z i0_z i1_z => ?_) (fun i_z i0_z i1_z => ?_) (by rw [np, upf_at]) (by rw [np, upf_at]) (by rw [Int.zero_add, upf_at]) (by rw [Int.zero_add, upf_at]) bX_z bY ?_
      · rw [upf_ne _ _ (by omega), upf_ne _ _ (by omega), upf_ne _ _ (by omega)]
        exact ⟨rfl, rfl, rfl⟩
      · rw [upf_ne _ _ (by omega), upf_ne _ _ (by omega)]
        exact ⟨rfl, rfl⟩
      · rfl
      · exact Or.inr ⟨by rw [np, upf_at], rfl, hpa.mp (hleg.2.2.2.2.2.1 (by decide))⟩
    · exact ItR.fr q13_z po (fun a_z a0_z a1_z => er a_z (by omega) (by omega) (by omega) (by omega) (by omega) (by omega) (by omega) (by omega) (by omega)) (kf' _ (by decide) (by decide) (by decide) (by decide) (by decide) (by decide)) (kr' _ (by omega) (by omega) (by omega) (by omega) (by omega) (by omega) (by omega) (by omega) (by omega))
end QA
