/-! THE PURE PART, part 13: when the frame on top changes alone. Own work. -/
theorem FrR.top {M_z T M' T' : Mem} {c_z s_z m_z : Nat} {E_z E'_z : Int} {d_z : Nat} (h_z : FrR M_z T c_z s_z m_z E_z) (hd_z : gI M_z c_z 11 = (d_z : Int)) (e11_z : gI M' c_z 11 = gI M_z c_z 11) (e36 : gI T' m_z 36 = gI T m_z 36) (eR : gR M' = gR M_z)
    (er : ∀ r_z : Nat, c_z + 22 ≤ r_z → r_z < c_z + 22 + 4 * d_z → gI M' r_z = gI M_z r_z ∧ gL M' r_z = gL M_z r_z) (t1_z : gI T' (m_z + 1) = gI T (m_z + 1)) (t17 : gI T' (m_z + 17) = gI T (m_z + 17))
    (tl : ∀ l : Int, 0 ≤ l → l < d_z → gI T' (m_z + 18) l = gI T (m_z + 18) l ∧ gI T' (m_z + 19) l = gI T (m_z + 19) l ∧ gI T' (m_z + 22) l = gI T (m_z + 22) l)
    (t20 : ∀ i_z : Int, 0 ≤ i_z → i_z < 16 * d_z → gI T' (m_z + 20) i_z = gI T (m_z + 20) i_z ∧ gI T' (m_z + 21) i_z = gI T (m_z + 21) i_z) (t23 : ∀ i_z : Int, 0 ≤ i_z → i_z < 3 * d_z → gI T' (m_z + 23) i_z = gI T (m_z + 23) i_z ∧ gI T' (m_z + 24) i_z = gI T (m_z + 24) i_z)
    (hn : FrL M' T' s_z m_z (c_z + 22 + 4 * d_z) d_z (gI T' (m_z + 18) d_z))
    (h12 : gI M' c_z 12 = gI M_z c_z 12 - nsv (sc M_z T m_z (c_z + 22 + 4 * d_z) d_z).1 + nsv (sc M' T' m_z (c_z + 22 + 4 * d_z) d_z).1)
    (hp : (sc M' T' m_z (c_z + 22 + 4 * d_z) d_z).2 = true ↔ 0 < gI T' m_z 25)
    (hE : E'_z = E_z - (200 - gI M_z c_z 13) * 2500 - wrk M_z T m_z (c_z + 22 + 4 * d_z) d_z + (200 - gI M' c_z 13) * 2500 + wrk M' T' m_z (c_z + 22 + 4 * d_z) d_z) : FrR M' T' c_z s_z m_z E'_z := by
  obtain ⟨⟨h1, h2, h3⟩, h4, h5, B_z, C_z, h6, h7, h8, h9, h10, h11⟩ := h_z
  rw [hd_z] at h9 h10 h11 h8 h4
  have ed : ((d_z : Int)).toNat = d_z := Int.toNat_natCast d_z
  rw [ed] at h9 h10 h11
  have esc : ∀ l : Nat, l < d_z → sc M' T' m_z (c_z + 22 + 4 * l) l = sc M_z T m_z (c_z + 22 + 4 * l) l := by
    intro l hl
    unfold sc cdm
    rw [t1_z, t17, (er (c_z + 22 + 4 * l) (by omega) (by omega)).1]
  have ewk : ∀ l : Nat, l < d_z → wrk M' T' m_z (c_z + 22 + 4 * l) l = wrk M_z T m_z (c_z + 22 + 4 * l) l := by
    intro l hl
    unfold wrk lnm
    rw [t1_z, t17, (er (c_z + 22 + 4 * l) (by omega) (by omega)).1, (er (c_z + 22 + 4 * l + 3) (by omega) (by omega)).1]
  refine ⟨⟨by rw [e11_z, e36]; exact h1, by omega, by omega⟩, fun l hl => ?_, by rw [t17]; exact h5, B_z, C_z, h6, h7, fun l hl => ?_, ?_, ?_, ?_⟩
  · rw [e11_z, hd_z] at hl ⊢
    by_cases c1_z : l = d_z
    · subst c1_z
      rw [if_neg (by omega), Int.add_zero]
      exact hn
    · have hl2 : l < d_z := by omega
      obtain ⟨q1_z, q2_z, q3_z⟩ := tl l (by omega) (by omega)
      rw [q1_z]
      exact FrL.fr (h4 l (by omega)) eR (er _ (by omega) (by omega)).1 (er _ (by omega) (by omega)).2 (er _ (by omega) (by omega)).1 (er _ (by omega) (by omega)).1 t1_z (by rw [t17]) q2_z (fun i_z i0_z i1_z => t20 _ (by omega) (by omega)) q3_z (fun i_z i0_z i1_z => t23 _ (by omega) (by omega))
  · rw [e11_z, hd_z] at hl
    rw [esc l (by omega), ewk l (by omega)]
    exact h8 l hl
  · rw [e11_z, hd_z, ed]
    omega
  · rw [e11_z, hd_z, ed]
    exact hp
  · rw [e11_z, hd_z, ed]
    omega
/-- the frame on top -/
theorem FrR.get {M_z T : Mem} {c_z s_z m_z : Nat} {E_z : Int} {d_z : Nat} (h_z : FrR M_z T c_z s_z m_z E_z) (hd_z : gI M_z c_z 11 = (d_z : Int)) : d_z < 5 ∧ gI T m_z 36 = (d_z : Int) ∧ FrL M_z T s_z m_z (c_z + 22 + 4 * d_z) d_z (gI T (m_z + 18) d_z) ∧ ((sc M_z T m_z (c_z + 22 + 4 * d_z) d_z).2 = true ↔ 0 < gI T m_z 25) := by
  obtain ⟨⟨h1, h2, h3⟩, h4, h5, B_z, C_z, h6, h7, h8, h9, h10, h11⟩ := h_z
  rw [hd_z] at h9 h10 h11 h8 h4
  have ed : ((d_z : Int)).toNat = d_z := Int.toNat_natCast d_z
  rw [ed] at h10
  have := h4 d_z (by omega)
  rw [if_neg (by omega), Int.add_zero] at this
  exact ⟨by omega, by omega, this, h10⟩
theorem lft_nn {f_z : Int → Int} {w_z : Int} (h_z : ∀ i_z, 0 ≤ i_z → i_z < w_z → 1 ≤ f_z i_z ∧ f_z i_z ≤ 9) : 0 ≤ lft f_z w_z ∧ lft f_z w_z ≤ 27 := by
  unfold lft
  by_cases c0_z : 0 < w_z
  · have := h_z 0 (by omega) c0_z
    rw [if_pos c0_z]
    by_cases c1_z : 1 < w_z
    · have := h_z 1 (by omega) c1_z
      rw [if_pos c1_z]
      by_cases c2_z : 2 < w_z
      · have := h_z 2 (by omega) c2_z
        rw [if_pos c2_z]
        omega
      · rw [if_neg c2_z]
        omega
    · rw [if_neg c1_z, if_neg (by omega)]
      omega
  · rw [if_neg c0_z, if_neg (by omega), if_neg (by omega)]
    omega
theorem FrL.wk1 {M_z T : Mem} {s_z m_z r_z : Nat} {l tk : Int} (h_z : FrL M_z T s_z m_z r_z l tk) : 1 ≤ wrk M_z T m_z r_z l := by
  obtain ⟨h1, h2, h3, h4, h5, h6, h7, h8⟩ := h_z
  have := (lft_nn (f_z := gI M_z (r_z + 3)) (w_z := gI M_z r_z 7) (fun i_z i0_z i1_z => (h7 i_z i0_z i1_z).2.2)).1
  have h9 := h3.2.2
  unfold wrk
  omega
/-- what can be done is not less than what the counter allows, and that of the frame on top -/
theorem FrR.pos {M_z T : Mem} {c_z s_z m_z : Nat} {E_z : Int} {d_z : Nat} (h_z : FrR M_z T c_z s_z m_z E_z) (hd_z : gI M_z c_z 11 = (d_z : Int)) (hc_z : gI M_z c_z 13 ≤ 200) : (200 - gI M_z c_z 13) * 2500 + wrk M_z T m_z (c_z + 22 + 4 * d_z) d_z ≤ E_z ∧ 1 ≤ E_z := by
  have hw := FrL.wk1 (h_z.get hd_z).2.2.1
  obtain ⟨⟨h1, h2, h3⟩, h4, h5, B_z, C_z, h6, h7, h8, h9, h10, h11⟩ := h_z
  have key_z : ∀ k_z : Nat, (k_z : Int) ≤ gI M_z c_z 11 → 0 ≤ C_z k_z := by
    intro k_z
    induction k_z with
    | zero =>
      intro _
      rw [h7]
      exact Int.le_refl 0
    | succ k_z ih_z =>
      intro hk
      have a_z := ih_z (by omega)
      have b_z := (h8 k_z (by omega)).2.1
      have e_z := FrL.wk1 (h4 k_z (by omega))
      omega
  have k1_z := key_z d_z (by omega)
  rw [hd_z] at h11
  have ed : ((d_z : Int)).toNat = d_z := Int.toNat_natCast d_z
  rw [ed] at h11
  omega
/-- the scan of a_z stream that is there -/
theorem EdR.prog {G_z : Env0} {M_z T : Mem} {s_z m_z : Nat} (h_z : EdR G_z M_z T s_z m_z) {x_z : Int} (h0 : 0 ≤ x_z) (h1 : x_z < 7) (h2 : 0 ≤ lnm T m_z x_z) : PgR G_z M_z (gR M_z (s_z + 1) x_z) (lnm T m_z x_z).toNat (cdm T m_z x_z) := by
  rcases h_z.2.1 x_z h0 h1 with ⟨a_z, -⟩ | ⟨-, a_z⟩
  · omega
  · exact a_z
/-- a token more of the scan -/
theorem sc_next {M_z T M' T' : Mem} {m_z r_z : Nat} {l : Int} (t1_z : gI T' (m_z + 1) = gI T (m_z + 1)) (t17 : gI T' (m_z + 17) l = gI T (m_z + 17) l) (h0 : 0 ≤ gI M_z r_z 5) (e_z : gI M' r_z 5 = gI M_z r_z 5 + 1) : sc M' T' m_z r_z l = stepF (cdm T m_z (gI T (m_z + 17) l) (gI M_z r_z 5).toNat) (gI M_z r_z 5).toNat (sc M_z T m_z r_z l) := by
  unfold sc
  have ec : cdm T' m_z (gI T' (m_z + 17) l) = cdm T m_z (gI T (m_z + 17) l) := by
    funext k
    unfold cdm
    rw [t1_z, t17]
  rw [ec, e_z, show (gI M_z r_z 5 + 1).toNat = (gI M_z r_z 5).toNat + 1 from by omega]
  rfl
/-- the code that comes next -/
def cdT (T : Mem) (m_z : Nat) (d_z : Nat) : Int := gI T (m_z + 1) (161 * gI T (m_z + 17) d_z + 1 + gI T (m_z + 18) d_z)
/-- tokens that open and close nothing -/
theorem stepF_id {cd : Int} {k_z : Nat} {s_z : Stk × Bool} (h_z : cd = 2 ∨ cd = 4 ∨ cd = 5 ∨ cd = 7 ∨ cd = 8 ∨ cd = 12 ∨ cd = 13 ∨ 16 ≤ cd) : stepF cd k_z s_z = s_z := by
  unfold stepF
  rw [if_neg (by omega), if_neg (by omega), if_neg (by omega), if_neg (by omega), if_neg (by omega)]
