/-! THE PURE PART, part 14: draw, a frame more. Own work. -/
theorem FrL.fr2 {M_z T M' T' : Mem} {s_z m_z r_z : Nat} {l tk : Int} (h_z : FrL M_z T s_z m_z r_z l tk) (eR : gR M' r_z 3 = gR M_z r_z 3) (eS : gR M' (s_z + 1) = gR M_z (s_z + 1)) (e0_z : gI M' r_z = gI M_z r_z) (e1_z : gL M' (r_z + 1) = gL M_z (r_z + 1)) (e2_z : gI M' (r_z + 2) = gI M_z (r_z + 2)) (e3_z : gI M' (r_z + 3) = gI M_z (r_z + 3)) (t1_z : gI T' (m_z + 1) = gI T (m_z + 1)) (t17 : gI T' (m_z + 17) l = gI T (m_z + 17) l) (t19 : gI T' (m_z + 19) l = gI T (m_z + 19) l) (t20 : ∀ i_z, 0 ≤ i_z → i_z < 16 → gI T' (m_z + 20) (16 * l + i_z) = gI T (m_z + 20) (16 * l + i_z) ∧ gI T' (m_z + 21) (16 * l + i_z) = gI T (m_z + 21) (16 * l + i_z)) (t22 : gI T' (m_z + 22) l = gI T (m_z + 22) l) (t23 : ∀ i_z, 0 ≤ i_z → i_z < 3 → gI T' (m_z + 23) (3 * l + i_z) = gI T (m_z + 23) (3 * l + i_z) ∧ gI T' (m_z + 24) (3 * l + i_z) = gI T (m_z + 24) (3 * l + i_z)) : FrL M' T' s_z m_z r_z l tk := by
  obtain ⟨h1, h2, h3, h4, h5, h6, h7, h8⟩ := h_z
  unfold FrL lnm
  have ec : ∀ x_z, cdm T' m_z x_z = cdm T m_z x_z := fun x_z => by
    funext k
    unfold cdm
    rw [t1_z]
  rw [eR, eS, e0_z, e1_z, e2_z, e3_z, t1_z, t17, t19, t22, ec]
  refine ⟨h1, h2, h3, h4, fun i_z i0_z i1_z => ?_, h6, fun i_z i0_z i1_z => ?_, LpO.congr (fun i_z i0_z i1_z => ((t23 i_z i0_z (by omega)).1).symm) h8⟩
  · obtain ⟨q1_z, q2_z⟩ := t20 i_z i0_z (by omega)
    rw [q1_z, q2_z]
    exact h5 i_z i0_z i1_z
  · obtain ⟨q1_z, q2_z⟩ := t23 i_z i0_z (by omega)
    rw [q1_z, q2_z]
    exact h7 i_z i0_z i1_z
theorem FrR.push {M_z T M' T' : Mem} {c_z s_z m_z : Nat} {E_z E'_z x_z n_z tk w_z f_z : Int} {d_z : Nat} (h_z : FrR M_z T c_z s_z m_z E_z) (hd_z : gI M_z c_z 11 = (d_z : Int)) (d4_z : d_z < 4) (e11_z : gI M' c_z 11 = (d_z : Int) + 1) (e36 : gI T' m_z 36 = (d_z : Int) + 1)
    (eS : gR M' (s_z + 1) = gR M_z (s_z + 1)) (eR : ∀ l : Nat, l ≤ d_z → gR M' (c_z + 22 + 4 * l) 3 = gR M_z (c_z + 22 + 4 * l) 3)
    (er : ∀ r_z : Nat, c_z + 22 ≤ r_z → r_z < c_z + 22 + 4 * d_z → gI M' r_z = gI M_z r_z ∧ gL M' r_z = gL M_z r_z) (f4_z : gI M' (c_z + 22 + 4 * d_z) 4 = gI M_z (c_z + 22 + 4 * d_z) 4) (f5_z : gI M_z (c_z + 22 + 4 * d_z) 5 = tk) (f5' : gI M' (c_z + 22 + 4 * d_z) 5 = tk + 1) (f6_z : gI M' (c_z + 22 + 4 * d_z) 6 = w_z) (w0_z : 0 ≤ w_z) (w1_z : w_z ≤ gI M_z (c_z + 22 + 4 * d_z) 6) (f7_z : gI M' (c_z + 22 + 4 * d_z) 7 = gI M_z (c_z + 22 + 4 * d_z) 7) (fl_z : gL M' (c_z + 22 + 4 * d_z + 1) = gL M_z (c_z + 22 + 4 * d_z + 1)) (f2_z : gI M' (c_z + 22 + 4 * d_z + 2) = gI M_z (c_z + 22 + 4 * d_z + 2)) (f3_z : gI M' (c_z + 22 + 4 * d_z + 3) = gI M_z (c_z + 22 + 4 * d_z + 3))
    (g4 : gI M' (c_z + 22 + 4 * (d_z + 1)) 4 = f_z) (g5_z : gI M' (c_z + 22 + 4 * (d_z + 1)) 5 = 0) (g6 : gI M' (c_z + 22 + 4 * (d_z + 1)) 6 = 0) (g7 : gI M' (c_z + 22 + 4 * (d_z + 1)) 7 = 0) (gR3 : gR M' (c_z + 22 + 4 * (d_z + 1)) 3 = gR M_z (s_z + 1) (f_z + 1))
    (t1_z : gI T' (m_z + 1) = gI T (m_z + 1)) (t17 : gI T' (m_z + 17) = upf (gI T (m_z + 17)) ((d_z : Int) + 1) (f_z + 1)) (t18 : gI T' (m_z + 18) = upf (gI T (m_z + 18)) ((d_z : Int) + 1) 0) (t19 : gI T' (m_z + 19) = upf (upf (gI T (m_z + 19)) d_z w_z) ((d_z : Int) + 1) 0) (t20 : gI T' (m_z + 20) = gI T (m_z + 20)) (t21 : gI T' (m_z + 21) = gI T (m_z + 21)) (t22 : gI T' (m_z + 22) = upf (gI T (m_z + 22)) ((d_z : Int) + 1) 0) (t23 : gI T' (m_z + 23) = gI T (m_z + 23)) (t24 : gI T' (m_z + 24) = gI T (m_z + 24))
    (hx : gI T (m_z + 17) d_z = x_z) (hn : lnm T m_z x_z = n_z) (hlt : tk < n_z) (fb0 : 0 ≤ f_z) (fb1 : f_z ≤ 5) (hfl : 0 ≤ lnm T m_z (f_z + 1)) (hsc : scan (cdm T m_z x_z) (tk.toNat + 1) = scan (cdm T m_z x_z) tk.toNat) (hfa : (scan (cdm T m_z x_z) tk.toNat).2 = false)
    (h12 : gI M' c_z 12 = gI M_z c_z 12 + 1) (h25 : gI T' m_z 25 = 0)
    (hE : E'_z = E_z - (200 - gI M_z c_z 13) * 2500 + (200 - gI M' c_z 13) * 2500 + lnm T m_z (f_z + 1)) : FrR M' T' c_z s_z m_z E'_z := by
  obtain ⟨g1, g2, gF, gP⟩ := h_z.get hd_z
  have tk0 : 0 ≤ tk := by
    have := gF.2.2.1.2.1
    have := gF.2.2.1.1
    omega
  obtain ⟨⟨h1, h2, h3⟩, h4, h5, B_z, C_z, h6, h7, h8, h9, h10, h11⟩ := h_z
  rw [hd_z] at h9 h10 h11 h8 h4
  have ed : ((d_z : Int)).toNat = d_z := Int.toNat_natCast d_z
  have ed1 : ((d_z : Int) + 1).toNat = d_z + 1 := by omega
  rw [ed] at h9 h10 h11
  have ec : ∀ y_z, cdm T' m_z y_z = cdm T m_z y_z := fun y_z => by
    funext k
    unfold cdm
    rw [t1_z]
  have el : ∀ y_z, lnm T' m_z y_z = lnm T m_z y_z := fun y_z => by
    unfold lnm
    rw [t1_z]
  have u17 : ∀ l : Int, l < (d_z : Int) + 1 → gI T' (m_z + 17) l = gI T (m_z + 17) l := fun l hl => by rw [t17, upf_ne _ _ (by omega)]
  have esc : ∀ l : Nat, l < d_z → sc M' T' m_z (c_z + 22 + 4 * l) l = sc M_z T m_z (c_z + 22 + 4 * l) l := by
    intro l hl
    unfold sc
    rw [ec, u17 l (by omega), (er (c_z + 22 + 4 * l) (by omega) (by omega)).1]
  have ewk : ∀ l : Nat, l < d_z → wrk M' T' m_z (c_z + 22 + 4 * l) l = wrk M_z T m_z (c_z + 22 + 4 * l) l := by
    intro l hl
    unfold wrk
    rw [el, u17 l (by omega), (er (c_z + 22 + 4 * l) (by omega) (by omega)).1, (er (c_z + 22 + 4 * l + 3) (by omega) (by omega)).1]
  have so : sc M_z T m_z (c_z + 22 + 4 * d_z) d_z = scan (cdm T m_z x_z) tk.toNat := by
    unfold sc
    rw [hx, f5_z]
  have sd_z : sc M' T' m_z (c_z + 22 + 4 * d_z) d_z = scan (cdm T m_z x_z) tk.toNat := by
    unfold sc
    rw [ec, u17 d_z (by omega), hx, f5', show (tk + 1).toNat = tk.toNat + 1 from by omega, hsc]
  have wd : wrk M' T' m_z (c_z + 22 + 4 * d_z) d_z = wrk M_z T m_z (c_z + 22 + 4 * d_z) d_z - 1 := by
    unfold wrk
    rw [el, u17 d_z (by omega), f5', f5_z, f7_z, f3_z]
    omega
  have sn : sc M' T' m_z (c_z + 22 + 4 * (d_z + 1)) ((d_z : Int) + 1) = ([], false) := by
    unfold sc
    rw [g5_z]
    rfl
  have wn_z : wrk M' T' m_z (c_z + 22 + 4 * (d_z + 1)) ((d_z : Int) + 1) = lnm T m_z (f_z + 1) + 1 := by
    unfold wrk
    rw [el, t17, upf_at, g5_z, g7]
    have : lft (gI M' (c_z + 22 + 4 * (d_z + 1) + 3)) 0 = 0 := by simp [lft]
    rw [this]
    omega
  have ecast : ((d_z + 1 : Nat) : Int) = (d_z : Int) + 1 := by omega
  obtain ⟨B2, hB_z, hB1⟩ : ∃ B2 : Nat → Int, (∀ l, l ≤ d_z → B2 l = B_z l) ∧ B2 (d_z + 1) = B_z d_z + nsv (scan (cdm T m_z x_z) tk.toNat).1 + 1 := ⟨fun l => if l ≤ d_z then B_z l else B_z d_z + nsv (scan (cdm T m_z x_z) tk.toNat).1 + 1, fun l hl => if_pos hl, if_neg (by omega)⟩
  obtain ⟨C2_z, hC, hC1⟩ : ∃ C2_z : Nat → Int, (∀ l, l ≤ d_z → C2_z l = C_z l) ∧ C2_z (d_z + 1) = C_z d_z + (wrk M_z T m_z (c_z + 22 + 4 * d_z) d_z - 1) := ⟨fun l => if l ≤ d_z then C_z l else C_z d_z + (wrk M_z T m_z (c_z + 22 + 4 * d_z) d_z - 1), fun l hl => if_pos hl, if_neg (by omega)⟩
  refine ⟨⟨by rw [e11_z, e36], by omega, by omega⟩, fun l hl => ?_, by rw [u17 0 (by omega)]; exact h5, B2, C2_z, ?_, ?_, fun l hl => ?_, ?_, ?_, ?_⟩
  · rw [e11_z] at hl ⊢
    by_cases c1_z : l = d_z + 1
    · subst c1_z
      rw [if_neg (by omega), ecast, t18, upf_at]
      unfold FrL
      rw [el, ec, t17, t19, t22, upf_at, upf_at, upf_at, gR3, g4, g5_z, g6, g7, eS]
      refine ⟨⟨by omega, by omega, by omega⟩, ⟨rfl, hfl⟩, ⟨by omega, by omega, by omega⟩, ⟨rfl, by omega, by omega⟩, fun i_z i0_z i1_z => by omega, ⟨rfl, by omega, by omega⟩, fun i_z i0_z i1_z => by omega, ?_⟩
      exact rfl
    · by_cases c2_z : l = d_z
      · subst c2_z
        rw [if_pos (by omega), t18, upf_ne _ _ (by omega)]
        obtain ⟨v1_z, v2, v3, v4_z, v5, v6, v7, v8⟩ := gF
        unfold FrL
        rw [el, ec, eR l (by omega), eS, u17 l (by omega), t19, t20, t21, t22, t23, t24, f4_z, f5', f6_z, f7_z, fl_z, f2_z, f3_z, upf_ne _ _ (by omega), upf_at, upf_ne _ _ (by omega)]
        have e18_z : gI T (m_z + 18) l = tk := by omega
        rw [e18_z] at v8 ⊢
        rw [hx] at v1_z v2 v3 v8 ⊢
        refine ⟨v1_z, v2, ⟨rfl, by omega, by omega⟩, ⟨rfl, w0_z, by omega⟩, fun i_z i0_z i1_z => v5 i_z i0_z (by omega), v6, v7, ?_⟩
        rw [show (tk + 1).toNat = tk.toNat + 1 from by omega, hsc]
        exact v8
      · have hl2 : l < d_z := by omega
        have key_z := h4 l (by omega)
        rw [if_pos (by omega)] at key_z
        rw [if_pos (by omega), t18, upf_ne _ _ (by omega)]
        exact FrL.fr2 key_z (eR l (by omega)) eS (er _ (by omega) (by omega)).1 (er _ (by omega) (by omega)).2 (er _ (by omega) (by omega)).1 (er _ (by omega) (by omega)).1 t1_z (u17 l (by omega)) (by rw [t19, upf_ne _ _ (by omega), upf_ne _ _ (by omega)]) (fun i_z i0_z i1_z => by rw [t20, t21]; exact ⟨rfl, rfl⟩) (by rw [t22, upf_ne _ _ (by omega)]) (fun i_z i0_z i1_z => by rw [t23, t24]; exact ⟨rfl, rfl⟩)
  · rw [hB_z 0 (Nat.zero_le _)]
    exact h6
  · rw [hC 0 (Nat.zero_le _)]
    exact h7
  · rw [e11_z] at hl
    by_cases c2_z : l = d_z
    · subst c2_z
      rw [sd_z, wd, hB1, hC1, hB_z l (Nat.le_refl _), hC l (Nat.le_refl _)]
      exact ⟨rfl, rfl, hfa⟩
    · rw [esc l (by omega), ewk l (by omega), hB_z _ (by omega), hB_z _ (by omega), hC _ (by omega), hC _ (by omega)]
      exact h8 l (by omega)
  · rw [e11_z, ed1, sn, hB1, h12]
    rw [so] at h9
    show gI M_z c_z 12 + 1 = B_z d_z + ((nsv (scan (cdm T m_z x_z) tk.toNat).1 : Nat) : Int) + 1 + ((0 : Nat) : Int)
    omega
  · rw [e11_z, ed1, sn, h25]
    exact ⟨fun q_z => by simp at q_z, fun q_z => by omega⟩
  · rw [e11_z, ed1, hC1, wn_z]
    omega
