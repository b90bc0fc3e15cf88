/-! THE PURE PART, part 14: the relation once a path has ended. Own work. -/
theorem it_new {f_z g_z : Int → Int} {it v0_z v1_z v2 v3 v4_z : Int} : ∀ F_z, F_z = rc (upf (upf (upf (upf (upf f_z (12 * it) v0_z) (12 * it + 1) v1_z) (12 * it + 2) v2) (12 * it + 3) v3) (12 * it + 4) v4_z) (12 * it + 5) g_z 13 7 → (∀ j_z, j_z < 12 * it → F_z j_z = f_z j_z) ∧ F_z (12 * it) = v0_z ∧ F_z (12 * it + 1) = v1_z ∧ F_z (12 * it + 2) = v2 ∧ F_z (12 * it + 3) = v3 ∧ F_z (12 * it + 4) = v4_z ∧ F_z (12 * it + 5) = g_z 13 ∧ ∀ j_z, 0 ≤ j_z → j_z < 6 → F_z (12 * it + 6 + j_z) = g_z (14 + j_z) := by
  intro F_z h_z
  subst h_z
  refine ⟨fun j_z hj => ?_, ?_, ?_, ?_, ?_, ?_, ?_, fun j_z j0 j1 => ?_⟩
  · rw [rc_out _ _ (by omega), upf_ne _ _ (by omega), upf_ne _ _ (by omega), upf_ne _ _ (by omega), upf_ne _ _ (by omega), upf_ne _ _ (by omega)]
  · rw [rc_out _ _ (by omega), upf_ne _ _ (by omega), upf_ne _ _ (by omega), upf_ne _ _ (by omega), upf_ne _ _ (by omega), upf_at]
  · rw [rc_out _ _ (by omega), upf_ne _ _ (by omega), upf_ne _ _ (by omega), upf_ne _ _ (by omega), upf_at]
  · rw [rc_out _ _ (by omega), upf_ne _ _ (by omega), upf_ne _ _ (by omega), upf_at]
  · rw [rc_out _ _ (by omega), upf_ne _ _ (by omega), upf_at]
  · rw [rc_out _ _ (by omega), upf_at]
  · rw [rc_in _ _ (by omega), show (13 : Int) + (12 * it + 5 - (12 * it + 5)) = 13 from by omega]
  · rw [rc_in _ _ (by omega), show (13 : Int) + (12 * it + 6 + j_z - (12 * it + 5)) = 14 + j_z from by omega]
section AP
variable {G : Env0} {M T : Mem} {c s m : Nat}
theorem fin_end {Mp T' T1 T3 T4 : Mem} {d_z g_z k_z : Nat} {tk x_z w_z e_z kk it n_z mk u_z tp p_z : Int} (hc_z : EnM M Mp c (c + 22 + 4 * d_z) g_z k_z tk (x_z - 1) u_z e_z kk it n_z) (hk : k_z = 9 ∨ k_z = 10 ∨ k_z = 11) (hee : gI M (c + 4) 5 = e_z) (hkk : gI M (c + 4) 6 = kk) (hit_z : gI M (c + 3) 8 = it) (hnn_z : gI M g_z 2 = n_z) (htp : gI M c 12 = tp) (hgg : c + 42 + 3 * tp.toNat = g_z) (b13 : gI M c 13 < 200) (hu : gI M (c + 4) 7 = u_z) (hit1 : k_z ≠ 11 → it < 30) (hn1 : u_z = 1 → n_z < 6) (t3_z : Tr3 T' T1 T3 m) (f17_z : gI T' (m + 17) d_z = x_z) (f18 : gI T' (m + 18) d_z = tk) (hp : gI T' m 33 = p_z) (hmk : gI T' m 27 = mk) (g1 : d_z < 5) (hK_z : EnT (uI T3 (m + 19) d_z (w_z - 0)) T4 m k_z d_z p_z it n_z mk) (q11_z : GsR M T' c m) (q12_z : PaR M T' c m) (q13_z : ItR M T' c m) (hz : 0 < gI T' m 25) : LeM T' T3 T4 m d_z w_z ∧ gI T4 m 25 = 0 ∧ ∀ M2_z, Cnt Mp M2_z c → gI M2_z c 12 = tp ∧ GsR M2_z T4 c m ∧ PaR M2_z T4 c m ∧ ItR M2_z T4 c m := by
  obtain ⟨t1_z, t2_z, t4_z, t5_z, t6⟩ := t3_z
  have z0 : ∀ a_z, a_z ≠ m + 19 → gI (uI T3 (m + 19) d_z (w_z - 0)) a_z = gI T3 a_z := fun a_z n0_z => rI_ne n0_z
  have z19 : gI (uI T3 (m + 19) d_z (w_z - 0)) (m + 19) = upf (gI T' (m + 19)) d_z w_z := by
    rw [rI_row, t2_z _ (by omega) (by omega) (by omega) (by omega) (by omega), Int.sub_zero]
  have zE : Ex (fun r_z => r_z = m + 19) T3 (uI T3 (m + 19) d_z (w_z - 0)) := (Ex.refl _ _).uI _ _ rfl
  generalize uI T3 (m + 19) d_z (w_z - 0) = T0_z at *
  have z1 : ∀ a_z, a_z ≠ m → a_z ≠ m + 19 → a_z ≠ m + 25 → a_z ≠ m + 26 → a_z ≠ m + 27 → a_z ≠ m + 28 → gI T0_z a_z = gI T' a_z := fun a_z n0_z n1_z n2_z n3_z n4_z n5_z => by rw [z0 a_z n1_z, t2_z a_z n0_z n2_z n3_z n4_z n5_z]
  have zf : ∀ j_z, j_z ≠ 49 → j_z ≠ 16 → j_z ≠ 20 → j_z ≠ 21 → gI T0_z m j_z = gI T' m j_z := fun j_z n0_z n1_z n2_z n3_z => by rw [z0 m (by omega), t4_z j_z n0_z n1_z n2_z n3_z]
  have f26 : gI T0_z m 26 = gI T' m 26 := zf 26 (by decide) (by decide) (by decide) (by decide)
  have f25 : gI T0_z m 25 = gI T' m 25 := zf 25 (by decide) (by decide) (by decide) (by decide)
  obtain ⟨k1_z, k2_z, ⟨k25, k26, k27⟩, k4_z, k5_z, k6_z⟩ := hK_z
  have kr : ∀ a_z, a_z ≠ m → a_z ≠ m + 6 → ¬ (m + 11 ≤ a_z ∧ a_z ≤ m + 16) → gI T4 a_z = gI T0_z a_z := fun a_z n0_z n1_z n2_z => (k1_z.2.2.2.2.2 a_z (by omega)).1
  have e49 : gI T4 m 49 = gI T3 m 49 := by rw [k2_z 49 (by decide) (by decide) (by decide) (by decide) (by decide), z0 m (by omega)]
  have le : LeM T' T3 T4 m d_z w_z := ⟨(zE.mono (fun a_z ha_z => by omega)).trans (k1_z.mono (fun a_z ha_z => by omega)), fun a_z ha_z => by rw [kr a_z (by omega) (by omega) (by omega), z1 a_z (by omega) (by omega) (by omega) (by omega) (by omega) (by omega)], by rw [kr _ (by omega) (by omega) (by omega), z0 _ (by omega)], by rw [kr _ (by omega) (by omega) (by omega), z19], fun j_z hj => by rw [k2_z j_z (by omega) (by omega) (by omega) (by omega) (by omega), zf j_z (by omega) (by omega) (by omega) (by omega)], e49⟩
  refine ⟨le, k25, fun M2_z hc2 => ?_⟩
  obtain ⟨⟨-, -, -, -, -, aL⟩, a2, ⟨a3, a4, a5, a6, a7⟩, -, a9, a10⟩ := hc_z
  obtain ⟨c1_z, c2_z, c3_z, c4_z, c5_z⟩ := hc2
  have tp1 := q11_z.2.1
  have tp2 := q11_z.2.2.1
  rw [htp] at tp1 tp2
  have gb : c + 42 ≤ g_z ∧ g_z + 2 < c + 147 := by omega
  obtain ⟨-, p2_z, p3_z, p4_z, p5_z, p6_z, p7_z, p8_z⟩ := id q12_z
  have p1_z := q12_z.1
  rw [hee] at p1_z p3_z p4_z p5_z p7_z p8_z
  rw [hkk] at p2_z p4_z
  rw [hp] at p3_z
  rw [hu, hmk] at p7_z
  -- the class's rows
  have er : ∀ a_z, a_z ≠ c → a_z ≠ c + 4 → a_z ≠ c + 8 → a_z ≠ c + 9 → ¬ (a_z = c + 3 ∨ (c + 10 ≤ a_z ∧ a_z < c + 20)) → a_z ≠ g_z → a_z ≠ g_z + 2 → a_z ≠ c + 22 + 4 * d_z → gI M2_z a_z = gI M a_z := fun a_z n0_z n1_z n2_z n3_z n4_z n5_z n6_z n7 => by rw [c3_z a_z n0_z (by omega) (by omega) (by omega), a2 a_z n1_z n2_z n3_z (by omega) n5_z n6_z n7]
  have eL : gL M2_z = gL M := by
    rw [c1_z]
    exact aL
  have ec : ∀ j_z, j_z ≠ 13 → j_z ≠ 15 → gI M2_z c j_z = gI M c j_z := fun j_z n0_z n1_z => by rw [c4_z j_z n0_z n1_z, a2 c (by omega) (by omega) (by omega) (by omega) (by omega) (by omega) (by omega)]
  have e13_z : gI M2_z c 13 = gI M c 13 + 1 := by rw [c5_z, a2 c (by omega) (by omega) (by omega) (by omega) (by omega) (by omega) (by omega)]
  have eq3_z : ∀ a_z, c + 1 ≤ a_z → (a_z < c + 17 ∨ c + 20 ≤ a_z) → gI M2_z a_z = gI Mp a_z := fun a_z n0_z n1_z => c3_z a_z (by omega) (by omega) (by omega) (by omega)
  rw [← eq3_z (c + 4) (by omega) (by omega)] at a4 a5
  rw [← eq3_z (c + 8) (by omega) (by omega)] at a6
  rw [← eq3_z (c + 9) (by omega) (by omega)] at a7
  rw [← eq3_z g_z (by omega) (by omega), ← eq3_z (g_z + 2) (by omega) (by omega)] at a9
  have ef : ∀ j_z, j_z ≠ 5 → j_z ≠ 7 → gI M2_z (c + 4) j_z = gI M (c + 4) j_z := fun j_z n0_z n1_z => by rw [eq3_z _ (by omega) (by omega), a3 j_z n0_z n1_z]
  have ef6 : gI M2_z (c + 4) 6 = kk := by rw [ef 6 (by decide) (by decide)]; exact hkk
  have r4 : gI M2_z (c + 5) = gI M (c + 5) := er _ (by omega) (by omega) (by omega) (by omega) (by omega) (by omega) (by omega) (by omega)
  have r5_z : gI M2_z (c + 6) = gI M (c + 6) := er _ (by omega) (by omega) (by omega) (by omega) (by omega) (by omega) (by omega) (by omega)
  have r6 : gI M2_z (c + 7) = gI M (c + 7) := er _ (by omega) (by omega) (by omega) (by omega) (by omega) (by omega) (by omega) (by omega)
  have r8 : ∀ i_z, i_z ≤ e_z → gI M2_z (c + 9) i_z = gI M (c + 9) i_z := fun i_z hi_z => by rw [a7, upf_ne _ _ (by omega)]
  -- the pool_z
  have pool_z : Pool M T' M2_z T4 c m ∧ ((k_z ≠ 11 ∨ 0 < mk) → PthR M2_z T4 c m e_z p_z) ∧ (gI T4 m 33 = gI T' m 33 ∨ gI T4 m 33 = gI T' m 33 + 1) := by
    rcases k4_z with ⟨y1, y2, y3, y4⟩ | ⟨y1, y3, y11, y12, y13, y14, y15⟩
    · refine ⟨pth_drop q12_z hee hkk a4 ef6 r4 r5_z r6 a6 r8 (by omega) (fun a_z b0 b1 => by rw [y4 a_z b0 b1, z1 a_z (by omega) (by omega) (by omega) (by omega) (by omega) (by omega)]), fun q_z => by omega, by omega⟩
    · rw [z1 (m + 11) (by omega) (by omega) (by omega) (by omega) (by omega) (by omega), z1 (m + 8) (by omega) (by omega) (by omega) (by omega) (by omega) (by omega), f25] at y11
      rw [z1 (m + 12) (by omega) (by omega) (by omega) (by omega) (by omega) (by omega), z1 (m + 9) (by omega) (by omega) (by omega) (by omega) (by omega) (by omega), f25] at y12
      rw [z1 (m + 13) (by omega) (by omega) (by omega) (by omega) (by omega) (by omega), z1 (m + 10) (by omega) (by omega) (by omega) (by omega) (by omega) (by omega), f25] at y13
      rw [z1 (m + 14) (by omega) (by omega) (by omega) (by omega) (by omega) (by omega), f25] at y14
      rw [z1 (m + 15) (by omega) (by omega) (by omega) (by omega) (by omega) (by omega), f26] at y15
      obtain ⟨po, pt⟩ := pth_new (M1 := M2_z) (T1 := T4) q12_z hee hkk hp rfl rfl a4 ef6 r4 r5_z r6 a6 r8 y3 y11 y12 y13 y14 y15 hz
      exact ⟨po, fun _ => pt, by omega⟩
  obtain ⟨po, pt, p33⟩ := pool_z
  have row6 : gI T0_z (m + 6) = gI T' (m + 6) := z1 _ (by omega) (by omega) (by omega) (by omega) (by omega) (by omega)
  rw [row6] at k6_z
  have gs := q11_z
  obtain ⟨gs1, -, -, gs4, gs5⟩ := gs
  rw [htp, hgg] at gs4
  refine ⟨by rw [ec 12 (by decide) (by decide)]; exact htp, ⟨?_, ?_, ?_, ?_, fun t_z ht => ?_⟩, ?_, ?_⟩
  · rw [ec 12 (by decide) (by decide), gs1, k2_z 19 (by decide) (by decide) (by decide) (by decide) (by decide), zf 19 (by decide) (by decide) (by decide) (by decide)]
  · rw [ec 12 (by decide) (by decide), htp]
    exact tp1
  · rw [ec 12 (by decide) (by decide), htp]
    exact tp2
  · -- the graphics state on top
    rw [ec 12 (by decide) (by decide), htp, hgg]
    rcases a9 with ⟨u0, b1, b2⟩ | ⟨u1_z, b1, b2, b3⟩
    · rcases k6_z with ⟨m0_z, l6⟩ | ⟨m0_z, -⟩
      · exact GrR.fr gs4 po b1 (by rw [eL]) b2 (fun k_z _ _ => by rw [l6])
      · omega
    · rcases k6_z with ⟨m0_z, -⟩ | ⟨m0_z, l6⟩
      · omega
      · obtain ⟨h1, h2, h3, h4, h5, h6, h7⟩ := gs4
        have n6_z := hn1 u1_z
        rw [hnn_z] at h4 h5 h6 h7
        have b1' : ∀ j_z, j_z ≠ 2 → gI M2_z g_z j_z = gI M g_z j_z := fun j_z n0_z => b1 j_z n0_z
        unfold GrR
        rw [b2, b3, b1' 3 (by decide), eL, l6]
        refine ⟨fun i_z i0_z i1_z => ?_, ?_, h3, ?_, by omega, by omega, fun i_z i0_z i1_z => ?_⟩
        · rw [upf_ne _ _ (by omega), upf_ne _ _ (by omega), upf_ne _ _ (by omega), upf_ne _ _ (by omega)]
          exact h1 i_z i0_z i1_z
        · rw [upf_ne _ _ (by omega), upf_ne _ _ (by omega)]
          exact h2
        · rw [upf_at]
        · rw [upf_ne _ (n_z + 1) (by omega)]
          by_cases ci : i_z = n_z
          · subst ci
            rw [upf_at, upf_at]
            have pp := pt (Or.inr m0_z)
            have ev_z : (2 * p_z + (mk - 1)) / 2 = p_z ∧ (2 * p_z + (mk - 1)) % 2 = mk - 1 := by omega
            unfold ClR
            rw [ev_z.1, ev_z.2, r8 e_z (Int.le_refl _)]
            refine ⟨by omega, pp, p8_z, Or.inl ?_⟩
            rcases p7_z with ⟨y_z, -⟩ | ⟨-, -, y_z⟩
            · omega
            · exact y_z
          · rw [upf_ne _ _ ci, upf_ne _ _ (by omega)]
            exact ClR.fr (h7 i_z i0_z (by omega)) po
  · rw [ec 12 (by decide) (by decide), htp] at ht
    refine GrR.fr (gs5 t_z (by omega)) po ?_ (by rw [eL]) ?_ (fun k_z _ _ => ?_)
    · exact er _ (by omega) (by omega) (by omega) (by omega) (by omega) (by omega) (by omega) (by omega)
    · exact er _ (by omega) (by omega) (by omega) (by omega) (by omega) (by omega) (by omega) (by omega)
    · rw [kr (m + 7) (by omega) (by omega) (by omega), z1 (m + 7) (by omega) (by omega) (by omega) (by omega) (by omega) (by omega)]
  · exact PaR.none q12_z hee hkk e13_z a4 ef6 a5 (by rw [a6, upf_at]) (by rw [a7, upf_at]) p33 k25 k26 k27
  · -- the items
    have qI := q13_z
    obtain ⟨i1_z, i2_z, i3_z, i4_z⟩ := qI
    rw [hit_z] at i1_z i2_z i3_z i4_z
    rcases a10 with ⟨k11, b1⟩ | ⟨k11, b8, b10, b11, b12, b13', b14, b15, b16⟩
    · rcases k5_z with ⟨-, l35, l16⟩ | ⟨l11, -⟩
      · exact ItR.fr q13_z po (fun a_z x0_z x1_z => by rw [eq3_z a_z (by omega) (by omega), b1 a_z x0_z x1_z]) (by omega) (by rw [l16]; exact z1 _ (by omega) (by omega) (by omega) (by omega) (by omega) (by omega))
      · omega
    · rcases k5_z with ⟨l11, -⟩ | ⟨-, l35, l16⟩
      · omega
      · have it30 := hit1 k11
        obtain ⟨v1_z, v2, v3, v4_z, v5, v6, v7, v8⟩ := it_new _ l16
        rw [row6] at v2 v7 v8
        rw [z1 (m + 17) (by omega) (by omega) (by omega) (by omega) (by omega) (by omega), f17_z] at v5
        rw [z1 (m + 18) (by omega) (by omega) (by omega) (by omega) (by omega) (by omega), f18] at v6
        have pp := pt (Or.inl k11)
        obtain ⟨h1, h2, h3, h4, h5, h6, h7⟩ := gs4
        rw [hnn_z] at h4 h5 h6 h7
        unfold ItR
        rw [eq3_z (c + 3) (by omega) (by omega), eq3_z (c + 10) (by omega) (by omega), eq3_z (c + 11) (by omega) (by omega), eq3_z (c + 12) (by omega) (by omega), eq3_z (c + 13) (by omega) (by omega), eq3_z (c + 14) (by omega) (by omega), eq3_z (c + 15) (by omega) (by omega), eq3_z (c + 16) (by omega) (by omega), b8, b10, b11, b12, b13', b14, b15, b16, l35]
        refine ⟨rfl, by omega, by omega, fun i_z i0_z i1' => ?_⟩
        by_cases ci : i_z = it
        · subst ci
          rw [upf_at, upf_at, upf_at, upf_at, upf_at, upf_at, v2, v3, v4_z, v5, v6, v7]
          refine ⟨h2.symm, h3, rfl, ?_, pp, rfl, rfl, h4.symm, h5, h6, fun j_z j0 j1 => ?_⟩
          · by_cases c10_z : k_z = 10
            · rw [if_pos c10_z]
              exact Or.inr rfl
            · rw [if_neg c10_z]
              exact Or.inl rfl
          · rw [rc_in _ _ (by omega), show (0 : Int) + (6 * i_z + j_z - i_z * 6) = j_z from by omega, v8 j_z j0 (by omega)]
            exact ClR.fr (h7 j_z j0 j1) po
        · have il : i_z < it := by omega
          rw [upf_ne _ _ ci, upf_ne _ _ ci, upf_ne _ _ ci, upf_ne _ _ ci, upf_ne _ _ ci, upf_ne _ _ ci, v1_z _ (by omega), v1_z _ (by omega), v1_z _ (by omega), v1_z _ (by omega), v1_z _ (by omega), v1_z _ (by omega), z1 (m + 16) (by omega) (by omega) (by omega) (by omega) (by omega) (by omega)]
          obtain ⟨w1_z, w2_z, w3_z, w4_z, w5, w6_z, w7_z, w8, w9, w10_z, w11_z⟩ := i4_z i_z i0_z il
          refine ⟨w1_z, w2_z, w3_z, w4_z, PthR.fr w5 po, w6_z, w7_z, w8, w9, w10_z, fun j_z j0 j1 => ?_⟩
          rw [rc_out _ _ (by omega), v1_z _ (by omega), z1 (m + 16) (by omega) (by omega) (by omega) (by omega) (by omega) (by omega)]
          exact ClR.fr (w11_z j_z j0 j1) po
end AP
