/-! THE PURE PART, part 14: what the end of a path leaves on both sides. Own work. -/
/-- the class's machine once a_z path has ended -/
def EnM (M Mp : Mem) (c r g_z k_z : Nat) (tk x_z u_z e_z kk it n_z : Int) : Prop := (gK Mp = gK M ∧ gN Mp = gN M ∧ gR Mp = gR M ∧ gz Mp = gz M ∧ gs Mp = gs M ∧ gL Mp = gL M) ∧
  (∀ a_z, a_z ≠ c + 4 → a_z ≠ c + 8 → a_z ≠ c + 9 → ¬ (a_z = c + 3 ∨ (c + 10 ≤ a_z ∧ a_z < c + 17)) → a_z ≠ g_z → a_z ≠ g_z + 2 → a_z ≠ r → gI Mp a_z = gI M a_z) ∧
  ((∀ j_z, j_z ≠ 5 → j_z ≠ 7 → gI Mp (c + 4) j_z = gI M (c + 4) j_z) ∧ gI Mp (c + 4) 5 = e_z + 1 ∧ gI Mp (c + 4) 7 = 0 ∧ gI Mp (c + 8) = upf (gI M (c + 8)) (e_z + 1) kk ∧ gI Mp (c + 9) = upf (gI M (c + 9)) (e_z + 1) 0) ∧
  ((∀ j_z, j_z ≠ 5 → gI Mp r j_z = gI M r j_z) ∧ gI Mp r 5 = tk + 1) ∧
  ((u_z = 0 ∧ gI Mp g_z = gI M g_z ∧ gI Mp (g_z + 2) = gI M (g_z + 2)) ∨ (u_z = 1 ∧ (∀ j_z, j_z ≠ 2 → gI Mp g_z j_z = gI M g_z j_z) ∧ gI Mp g_z 2 = n_z + 1 ∧ gI Mp (g_z + 2) = upf (gI M (g_z + 2)) n_z e_z)) ∧
  ((k_z = 11 ∧ ∀ a_z, (a_z = c + 3 ∨ c + 10 ≤ a_z) → a_z < c + 17 → gI Mp a_z = gI M a_z) ∨ (k_z ≠ 11 ∧ gI Mp (c + 3) 8 = it + 1 ∧ gI Mp (c + 10) = upf (gI M (c + 10)) it e_z ∧ gI Mp (c + 11) = upf (gI M (c + 11)) it (if k_z = 10 then 1 else 0) ∧ gI Mp (c + 12) = upf (gI M (c + 12)) it (gI M g_z 3) ∧ gI Mp (c + 13) = upf (gI M (c + 13)) it x_z ∧ gI Mp (c + 14) = upf (gI M (c + 14)) it tk ∧ gI Mp (c + 15) = upf (gI M (c + 15)) it n_z ∧ gI Mp (c + 16) = rc (gI M (c + 16)) (it * 6) (gI M (g_z + 2)) 0 6))
theorem EnM.of {M M1_z M2_z M3_z : Mem} {c r g_z k_z : Nat} {tk x_z u_z e_z kk it n_z : Int} (hr : c + 22 ≤ r) (hr2 : r < c + 42) (hg : c + 42 ≤ g_z) (hit_z : gI M (c + 3) 8 = it) (hn : gI M g_z 2 = n_z)
    (h1 : M1_z = uI (uI (uI (uI (uI M r 5 (tk + 1)) (c + 4) 5 (e_z + 1)) (c + 4 + 4) (e_z + 1) kk) (c + 4 + 5) (e_z + 1) 0) (c + 4) 7 0) (h2 : (k_z = 11 ∧ M2_z = M1_z) ∨ (k_z ≠ 11 ∧ M2_z = uI (uCI (uI (uI (uI (uI (uI (uI M1_z (c + 3 + 7) it e_z) (c + 3 + 8) it (if k_z = 10 then 1 else 0)) (c + 3 + 9) it (gI M1_z g_z 3)) (c + 3 + 10) it x_z) (c + 3 + 11) it tk) (c + 3 + 12) it (gI M1_z g_z 2)) (c + 3 + 13) (it * 6) (g_z + 2) 0 6) (c + 3) 8 (it + 1))) (h3 : (u_z = 0 ∧ M3_z = M2_z) ∨ (u_z = 1 ∧ M3_z = uI (uI M2_z (g_z + 2) n_z e_z) g_z 2 (n_z + 1))) : EnM M M3_z c r g_z k_z tk x_z u_z e_z kk it n_z := by
  obtain ⟨⟨a1_z, a2, a3, a4, a5, a6⟩, a7, a8, a9, a10, a11, a12⟩ := paE_f M1_z h1
  have b7 : ∀ a_z, a_z ≠ c + 4 → a_z ≠ c + 8 → a_z ≠ c + 9 → a_z ≠ r → gI M1_z a_z = gI M a_z := fun a_z n0_z n1_z n2_z n3_z => by rw [a7 a_z n0_z (by omega) (by omega), rI_ne n3_z]
  have bf : ∀ j_z, j_z ≠ 5 → j_z ≠ 7 → gI M1_z (c + 4) j_z = gI M (c + 4) j_z := fun j_z n0_z n1_z => by rw [a8 j_z n0_z n1_z, rI_ne (by omega)]
  have br : ∀ j_z, j_z ≠ 5 → gI M1_z r j_z = gI M r j_z := fun j_z n0_z => by rw [a7 r (by omega) (by omega) (by omega), rI_nk n0_z]
  have br5 : gI M1_z r 5 = tk + 1 := by rw [a7 r (by omega) (by omega) (by omega), rI_at]
  have b11 : gI M1_z (c + 8) = upf (gI M (c + 8)) (e_z + 1) kk := by
    have q_z : gI M1_z (c + 8) = _ := a11
    rw [q_z, rI_ne (by omega)]
  have b12 : gI M1_z (c + 9) = upf (gI M (c + 9)) (e_z + 1) 0 := by
    have q_z : gI M1_z (c + 9) = _ := a12
    rw [q_z, rI_ne (by omega)]
  have m2_z : (gK M2_z = gK M ∧ gN M2_z = gN M ∧ gR M2_z = gR M ∧ gz M2_z = gz M ∧ gs M2_z = gs M ∧ gL M2_z = gL M) ∧ (∀ a_z, (a_z < c + 10 ∧ a_z ≠ c + 3) ∨ c + 17 ≤ a_z → gI M2_z a_z = gI M1_z a_z) ∧ ((k_z = 11 ∧ ∀ a_z, (a_z = c + 3 ∨ c + 10 ≤ a_z) → a_z < c + 17 → gI M2_z a_z = gI M a_z) ∨ (k_z ≠ 11 ∧ gI M2_z (c + 3) 8 = it + 1 ∧ gI M2_z (c + 10) = upf (gI M (c + 10)) it e_z ∧ gI M2_z (c + 11) = upf (gI M (c + 11)) it (if k_z = 10 then 1 else 0) ∧ gI M2_z (c + 12) = upf (gI M (c + 12)) it (gI M g_z 3) ∧ gI M2_z (c + 13) = upf (gI M (c + 13)) it x_z ∧ gI M2_z (c + 14) = upf (gI M (c + 14)) it tk ∧ gI M2_z (c + 15) = upf (gI M (c + 15)) it n_z ∧ gI M2_z (c + 16) = rc (gI M (c + 16)) (it * 6) (gI M (g_z + 2)) 0 6)) := by
    rcases h2 with ⟨k1_z, e2_z⟩ | ⟨k1_z, e2_z⟩
    · subst e2_z
      exact ⟨⟨a1_z, a2, a3, a4, a5, a6⟩, fun a_z _ => rfl, Or.inl ⟨k1_z, fun a_z n0_z n1_z => b7 a_z (by omega) (by omega) (by omega) (by omega)⟩⟩
    · obtain ⟨⟨d1_z, d2_z, d3_z, d4_z, d5_z, d6_z⟩, d7_z, d8_z, d9_z, d10_z, d11_z, d12_z, d13_z, d14_z, d15_z⟩ := itA_f (n_z := 0) (by rw [b7 _ (by omega) (by omega) (by omega) (by omega)]; exact hit_z) (by omega) M2_z e2_z
      rw [b7 (c + 3 + 7) (by omega) (by omega) (by omega) (by omega)] at d9_z
      rw [b7 (c + 3 + 8) (by omega) (by omega) (by omega) (by omega)] at d10_z
      rw [b7 (c + 3 + 9) (by omega) (by omega) (by omega) (by omega), b7 g_z (by omega) (by omega) (by omega) (by omega)] at d11_z
      rw [b7 (c + 3 + 10) (by omega) (by omega) (by omega) (by omega)] at d12_z
      rw [b7 (c + 3 + 11) (by omega) (by omega) (by omega) (by omega)] at d13_z
      rw [b7 (c + 3 + 12) (by omega) (by omega) (by omega) (by omega), b7 g_z (by omega) (by omega) (by omega) (by omega), hn] at d14_z
      rw [b7 (c + 3 + 13) (by omega) (by omega) (by omega) (by omega), b7 (g_z + 2) (by omega) (by omega) (by omega) (by omega)] at d15_z
      exact ⟨⟨d1_z.trans a1_z, d2_z.trans a2, d3_z.trans a3, d4_z.trans a4, d5_z.trans a5, d6_z.trans a6⟩, fun a_z ha_z => d7_z a_z (by omega), Or.inr ⟨k1_z, d8_z, d9_z, d10_z, d11_z, d12_z, d13_z, d14_z, d15_z⟩⟩
  obtain ⟨⟨m1_z, m2_z, m3_z, m4_z, m5_z, m6_z⟩, m7_z, m8_z⟩ := m2_z
  rcases h3 with ⟨u0, e3_z⟩ | ⟨u1_z, e3_z⟩
  · subst e3_z
    refine ⟨⟨m1_z, m2_z, m3_z, m4_z, m5_z, m6_z⟩, fun a_z n0_z n1_z n2_z n3_z n4_z n5_z n6_z => by rw [m7_z a_z (by omega), b7 a_z n0_z n1_z n2_z n6_z], ⟨fun j_z n0_z n1_z => by rw [m7_z _ (by omega), bf j_z n0_z n1_z], by rw [m7_z _ (by omega), a9], by rw [m7_z _ (by omega), a10], by rw [m7_z _ (by omega), b11], by rw [m7_z _ (by omega), b12]⟩, ⟨fun j_z n0_z => by rw [m7_z _ (by omega), br j_z n0_z], by rw [m7_z _ (by omega), br5]⟩, Or.inl ⟨u0, by rw [m7_z _ (by omega), b7 _ (by omega) (by omega) (by omega) (by omega)], by rw [m7_z _ (by omega), b7 _ (by omega) (by omega) (by omega) (by omega)]⟩, m8_z⟩
  · obtain ⟨⟨f1_z, f2_z, f3_z, f4_z, f5_z, f6_z⟩, f7_z, f8_z, f9_z, f10⟩ := clA_f M3_z e3_z
    have f7' : ∀ a_z, a_z < c + 42 → gI M3_z a_z = gI M2_z a_z := fun a_z ha_z => f7_z a_z (by omega) (by omega)
    refine ⟨⟨f1_z.trans m1_z, f2_z.trans m2_z, f3_z.trans m3_z, f4_z.trans m4_z, f5_z.trans m5_z, f6_z.trans m6_z⟩, fun a_z n0_z n1_z n2_z n3_z n4_z n5_z n6_z => by rw [f7_z a_z n4_z n5_z, m7_z a_z (by omega), b7 a_z n0_z n1_z n2_z n6_z], ⟨fun j_z n0_z n1_z => by rw [f7' _ (by omega), m7_z _ (by omega), bf j_z n0_z n1_z], by rw [f7' _ (by omega), m7_z _ (by omega), a9], by rw [f7' _ (by omega), m7_z _ (by omega), a10], by rw [f7' _ (by omega), m7_z _ (by omega), b11], by rw [f7' _ (by omega), m7_z _ (by omega), b12]⟩, ⟨fun j_z n0_z => by rw [f7' _ (by omega), m7_z _ (by omega), br j_z n0_z], by rw [f7' _ (by omega), m7_z _ (by omega), br5]⟩, Or.inr ⟨u1_z, fun j_z n0_z => by rw [f8_z j_z n0_z, m7_z _ (by omega), b7 _ (by omega) (by omega) (by omega) (by omega)], f9_z, by rw [f10, m7_z _ (by omega), b7 _ (by omega) (by omega) (by omega) (by omega)]⟩, ?_⟩
    rcases m8_z with ⟨k1_z, m8_z⟩ | ⟨k1_z, m8_z⟩
    · exact Or.inl ⟨k1_z, fun a_z n0_z n1_z => by rw [f7' a_z (by omega), m8_z a_z n0_z n1_z]⟩
    · refine Or.inr ⟨k1_z, ?_⟩
      rw [f7' (c + 3) (by omega), f7' (c + 10) (by omega), f7' (c + 11) (by omega), f7' (c + 12) (by omega), f7' (c + 13) (by omega), f7' (c + 14) (by omega), f7' (c + 15) (by omega), f7' (c + 16) (by omega)]
      exact m8_z
theorem EnM.le {M Mp : Mem} {c d_z g_z k_z : Nat} {tk x_z u_z e_z kk it n_z w_z : Int} (h_z : EnM M Mp c (c + 22 + 4 * d_z) g_z k_z tk x_z u_z e_z kk it n_z) (hd_z : d_z < 5) (hg : c + 42 ≤ g_z ∧ g_z + 2 < c + 147) (hw : gI M (c + 22 + 4 * d_z) 6 = w_z) (hs : ShMa M c) : LeC M Mp c d_z tk w_z := by
  obtain ⟨⟨a1_z, a2, a3, a4, a5, a6⟩, a7, -, ⟨a8, a9⟩, -⟩ := h_z
  refine ⟨?_, a3, ⟨a1_z, a2, a4, a5, fun r hr => ⟨a7 r (by omega) (by omega) (by omega) (by omega) (by omega) (by omega) (by omega), by rw [a6], by rw [a3]⟩⟩, fun a_z a0_z a1_z n_z => ⟨a7 a_z (by omega) (by omega) (by omega) (by omega) (by omega) (by omega) n_z, by rw [a6]⟩, fun a_z a0_z a1_z => a7 a_z (by omega) (by omega) (by omega) (by omega) (by omega) (by omega) (by omega), fun j_z hj => by rw [a7 c (by omega) (by omega) (by omega) (by omega) (by omega) (by omega) (by omega)], a8 4 (by decide), a9, by rw [a8 6 (by decide)]; exact hw, a8 7 (by decide)⟩
  unfold ShMa ShM0 ShM0x ShPa ShPax ShIt ShItx ShFr ShFrx ShGr ShGrx
  rw [a1_z, a2, a3]
  exact hs
/-- the model once a_z path has ended -/
def EnT (T T4 : Mem) (m k_z d_z : Nat) (p_z it n_z mk : Int) : Prop := Ex (fun r => r = m ∨ r = m + 6 ∨ (m + 11 ≤ r ∧ r ≤ m + 16)) T T4 ∧ (∀ j_z, j_z ≠ 25 → j_z ≠ 26 → j_z ≠ 27 → j_z ≠ 33 → j_z ≠ 35 → gI T4 m j_z = gI T m j_z) ∧ (gI T4 m 25 = 0 ∧ gI T4 m 26 = 0 ∧ gI T4 m 27 = 0) ∧
  ((k_z = 11 ∧ mk ≤ 0 ∧ gI T4 m 33 = p_z ∧ ∀ a_z, m + 11 ≤ a_z → a_z ≤ m + 15 → gI T4 a_z = gI T a_z) ∨ ((k_z ≠ 11 ∨ 0 < mk) ∧ gI T4 m 33 = p_z + 1 ∧ gI T4 (m + 11) = rc (gI T (m + 11)) (24 * p_z) (gI T (m + 8)) 0 (gI T m 25) ∧ gI T4 (m + 12) = rc (gI T (m + 12)) (24 * p_z) (gI T (m + 9)) 0 (gI T m 25) ∧ gI T4 (m + 13) = rc (gI T (m + 13)) (24 * p_z) (gI T (m + 10)) 0 (gI T m 25) ∧ gI T4 (m + 14) = upf (gI T (m + 14)) p_z (gI T m 25) ∧ gI T4 (m + 15) = upf (gI T (m + 15)) p_z (gI T m 26))) ∧
  ((k_z = 11 ∧ gI T4 m 35 = it ∧ gI T4 (m + 16) = gI T (m + 16)) ∨ (k_z ≠ 11 ∧ gI T4 m 35 = it + 1 ∧ gI T4 (m + 16) = rc (upf (upf (upf (upf (upf (gI T (m + 16)) (12 * it) (gI T (m + 6) 12)) (12 * it + 1) (if k_z = 10 then 1 else 0)) (12 * it + 2) p_z) (12 * it + 3) (gI T (m + 17) d_z - 1)) (12 * it + 4) (gI T (m + 18) d_z)) (12 * it + 5) (gI T (m + 6)) 13 7)) ∧
  ((mk ≤ 0 ∧ gI T4 (m + 6) = gI T (m + 6)) ∨ (0 < mk ∧ gI T4 (m + 6) = upf (upf (gI T (m + 6)) (14 + n_z) (2 * p_z + (mk - 1))) 13 (n_z + 1)))
theorem EnT.e0 {T T1 T4 : Mem} {m : Nat} (h_z : T4 = uI (uI (uI T1 m 25 0) m 26 0) m 27 0) : Ex (fun r => r = m) T1 T4 ∧ (∀ j_z, j_z ≠ 25 → j_z ≠ 26 → j_z ≠ 27 → gI T4 m j_z = gI T1 m j_z) ∧ gI T4 m 25 = 0 ∧ gI T4 m 26 = 0 ∧ gI T4 m 27 = 0 ∧ ∀ a_z, a_z ≠ m → gI T4 a_z = gI T1 a_z := by
  subst h_z
  have hE : Ex (fun r => r = m) T1 (uI (uI (uI T1 m 25 0) m 26 0) m 27 0) := (((Ex.refl (fun r => r = m) T1).uI _ _ rfl).uI _ _ rfl).uI _ _ rfl
  refine ⟨hE, fun j_z n0_z n1_z n2_z => ?_, ?_, ?_, rI_at, fun a_z n0_z => ?_⟩
  · rw [rI_nk n2_z, rI_nk n1_z, rI_nk n0_z]
  · rw [rI_nk (by decide), rI_nk (by decide), rI_at]
  · rw [rI_nk (by decide), rI_at]
  · rw [rI_ne n0_z, rI_ne n0_z, rI_ne n0_z]
theorem EnT.of {T T1 T2 T4 : Mem} {m k_z d_z : Nat} {p_z it n_z mk : Int} (h_z : (k_z = 11 ∧ mk ≤ 0 ∧ T1 = T) ∨ ((k_z ≠ 11 ∨ 0 < mk) ∧ KpT T T1 m p_z)) (hp : gI T m 33 = p_z) (hit_z : gI T m 35 = it) (h2 : (k_z = 11 ∧ gI T1 m 35 = it ∧ gI T1 (m + 16) = gI T (m + 16)) ∨ (k_z ≠ 11 ∧ gI T1 m 35 = it + 1 ∧ gI T1 (m + 16) = rc (upf (upf (upf (upf (upf (gI T (m + 16)) (12 * it) (gI T (m + 6) 12)) (12 * it + 1) (if k_z = 10 then 1 else 0)) (12 * it + 2) p_z) (12 * it + 3) (gI T (m + 17) d_z - 1)) (12 * it + 4) (gI T (m + 18) d_z)) (12 * it + 5) (gI T (m + 6)) 13 7)) (h3 : (mk ≤ 0 ∧ T2 = T1) ∨ (0 < mk ∧ T2 = uI (uI T1 (m + 6) (14 + n_z) (2 * p_z + (mk - 1))) (m + 6) 13 (n_z + 1))) (h4 : T4 = uI (uI (uI T2 m 25 0) m 26 0) m 27 0) : EnT T T4 m k_z d_z p_z it n_z mk := by
  obtain ⟨b1, b2, b3, b4, b5, b6⟩ := EnT.e0 (T := T2) h4
  have c1_z : Ex (fun r => r = m ∨ (m + 11 ≤ r ∧ r ≤ m + 16)) T T1 ∧ (∀ j_z, j_z ≠ 33 → j_z ≠ 35 → gI T1 m j_z = gI T m j_z) ∧ ((k_z = 11 ∧ mk ≤ 0 ∧ gI T1 m 33 = p_z ∧ ∀ a_z, m + 11 ≤ a_z → a_z ≤ m + 15 → gI T1 a_z = gI T a_z) ∨ ((k_z ≠ 11 ∨ 0 < mk) ∧ gI T1 m 33 = p_z + 1 ∧ gI T1 (m + 11) = rc (gI T (m + 11)) (24 * p_z) (gI T (m + 8)) 0 (gI T m 25) ∧ gI T1 (m + 12) = rc (gI T (m + 12)) (24 * p_z) (gI T (m + 9)) 0 (gI T m 25) ∧ gI T1 (m + 13) = rc (gI T (m + 13)) (24 * p_z) (gI T (m + 10)) 0 (gI T m 25) ∧ gI T1 (m + 14) = upf (gI T (m + 14)) p_z (gI T m 25) ∧ gI T1 (m + 15) = upf (gI T (m + 15)) p_z (gI T m 26))) := by
    rcases h_z with ⟨k1_z, k2_z, e1_z⟩ | ⟨k1_z, d1_z, d2_z, d3_z⟩
    · subst e1_z
      exact ⟨Ex.refl _ _, fun j_z _ _ => rfl, Or.inl ⟨k1_z, k2_z, hp, fun a_z _ _ => rfl⟩⟩
    · exact ⟨d1_z, d2_z, Or.inr ⟨k1_z, d3_z⟩⟩
  obtain ⟨c1_z, c2_z, c3_z⟩ := c1_z
  have d1_z : Ex (fun r => r = m ∨ r = m + 6 ∨ (m + 11 ≤ r ∧ r ≤ m + 16)) T1 T2 ∧ (∀ a_z, a_z ≠ m + 6 → gI T2 a_z = gI T1 a_z) ∧ ((mk ≤ 0 ∧ gI T2 (m + 6) = gI T1 (m + 6)) ∨ (0 < mk ∧ gI T2 (m + 6) = upf (upf (gI T1 (m + 6)) (14 + n_z) (2 * p_z + (mk - 1))) 13 (n_z + 1))) := by
    rcases h3 with ⟨m0_z, e3_z⟩ | ⟨m0_z, e3_z⟩
    · subst e3_z
      exact ⟨Ex.refl _ _, fun a_z _ => rfl, Or.inl ⟨m0_z, rfl⟩⟩
    · subst e3_z
      exact ⟨((Ex.refl _ _).uI _ _ (by omega)).uI _ _ (by omega), fun a_z n0_z => by rw [rI_ne n0_z, rI_ne n0_z], Or.inr ⟨m0_z, by rw [rI_row, rI_row]⟩⟩
  obtain ⟨d1_z, d2_z, d3_z⟩ := d1_z
  have r16 : ∀ a_z, m + 11 ≤ a_z → a_z ≤ m + 16 → gI T4 a_z = gI T1 a_z := fun a_z a0_z a1_z => by rw [b6 a_z (by omega), d2_z a_z (by omega)]
  have r6 : gI T4 (m + 6) = gI T2 (m + 6) := b6 _ (by omega)
  have o6 : gI T1 (m + 6) = gI T (m + 6) := (c1_z.2.2.2.2.2 _ (by omega)).1
  have fj : ∀ j_z, j_z ≠ 25 → j_z ≠ 26 → j_z ≠ 27 → gI T4 m j_z = gI T1 m j_z := fun j_z n0_z n1_z n2_z => by rw [b2 j_z n0_z n1_z n2_z, d2_z m (by omega)]
  refine ⟨((c1_z.mono (fun a_z ha_z => by omega)).trans d1_z).trans (b1.mono (fun a_z ha_z => Or.inl ha_z)), fun j_z n0_z n1_z n2_z n3_z n4_z => by rw [fj j_z n0_z n1_z n2_z, c2_z j_z n3_z n4_z], ⟨b3, b4, b5⟩, ?_, ?_, ?_⟩
  · rw [fj 33 (by decide) (by decide) (by decide), r16 (m + 11) (by omega) (by omega), r16 (m + 12) (by omega) (by omega), r16 (m + 13) (by omega) (by omega), r16 (m + 14) (by omega) (by omega), r16 (m + 15) (by omega) (by omega)]
    rcases c3_z with ⟨z1, z2, z3, z4⟩ | z_z
    · exact Or.inl ⟨z1, z2, z3, fun a_z a0_z a1_z => by rw [r16 a_z a0_z (by omega), z4 a_z a0_z a1_z]⟩
    · exact Or.inr z_z
  · rw [fj 35 (by decide) (by decide) (by decide), r16 (m + 16) (by omega) (by omega)]
    exact h2
  · rw [r6, ← o6]
    exact d3_z
section AO
variable {G : Env0} {Q : Option AV → Mem → Prop} {M T : Mem} {c s m r : Nat}
/-- the model ends its path -/
theorem X_endT {k_z d_z : Nat} {p_z it n_z mk : Int} (hs : ShM T m) (hk : k_z = 9 ∨ k_z = 10 ∨ k_z = 11) (hp : gI T m 33 = p_z) (p0_z : 0 ≤ p_z) (p1_z : p_z < 202) (z0 : 0 ≤ gI T m 25) (z1 : gI T m 25 ≤ 24) (hi_z : gI T m 35 = it) (i0_z : 0 ≤ it) (i1_z : k_z ≠ 11 → it < 30) (hd_z : gI T m 36 = (d_z : Int)) (d1_z : d_z < 5) (s0_z : 0 ≤ gI T (m + 17) d_z) (s1_z : gI T (m + 17) d_z ≤ 100) (hm_z : gI T m 27 = mk) (hm2 : mk ≤ 2) (hn : gI T (m + 6) 13 = n_z) (n0_z : 0 ≤ n_z) (n1_z : 0 < mk → n_z < 6) (h_z : ∀ T4, EnT T T4 m k_z d_z p_z it n_z mk → Q none T4) : Call G J_M_ends [a_r m, a_i (k_z : Int)] T Q := by
  by_cases ck : k_z = 11
  · subst ck
    refine X_endsD hs hp p0_z p1_z z0 z1 hm_z hm2 hn n0_z n1_z (fun m0_z => ?_) (fun m0_z T1 hK_z h35 h16_z => ?_)
    · exact h_z _ (EnT.of (T1 := T) (T2 := T) (Or.inl ⟨rfl, m0_z, rfl⟩) hp hi_z (Or.inl ⟨rfl, hi_z, rfl⟩) (Or.inl ⟨m0_z, rfl⟩) rfl)
    · exact h_z _ (EnT.of (T1 := T1) (Or.inr ⟨Or.inr m0_z, hK_z⟩) hp hi_z (Or.inl ⟨rfl, h35.trans hi_z, h16_z⟩) (Or.inr ⟨m0_z, rfl⟩) rfl)
  · refine X_ends hs (by omega) hp p0_z p1_z z0 z1 hi_z i0_z (i1_z ck) hd_z (by omega) (by omega) s0_z s1_z hm_z hm2 hn n0_z n1_z (fun T1 hK_z h35 h16_z => ⟨fun m0_z => ?_, fun m0_z => ?_⟩)
    · exact h_z _ (EnT.of (T1 := T1) (T2 := T1) (Or.inr ⟨Or.inl ck, hK_z⟩) hp hi_z (Or.inr ⟨ck, h35, h16_z⟩) (Or.inl ⟨m0_z, rfl⟩) rfl)
    · exact h_z _ (EnT.of (T1 := T1) (Or.inr ⟨Or.inl ck, hK_z⟩) hp hi_z (Or.inr ⟨ck, h35, h16_z⟩) (Or.inr ⟨m0_z, rfl⟩) rfl)
end AO
