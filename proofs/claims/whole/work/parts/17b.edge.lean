/-! THE PURE PART, part 17: how edges cross a ray. Own work. -/
/-- how an edge crosses -/
def crw (ya yb py : Int) : Int := if ya ≤ py ∧ py < yb then 1 else if yb ≤ py ∧ py < ya then -1 else 0
def cro (xa ya xb yb px py : Int) : Int := (xa - px) * (yb - ya) + (py - ya) * (xb - xa)
def crs (xa ya xb yb px py : Int) : Int := if 0 < cro xa ya xb yb px py * crw ya yb py then crw ya yb py else 0
theorem crw_up {ya yb py : Int} (h_z : ya ≤ py ∧ py < yb) : crw ya yb py = 1 := if_pos h_z
theorem crw_dn {ya yb py : Int} (h_z : yb ≤ py ∧ py < ya) : crw ya yb py = -1 := by
  unfold crw
  rw [if_neg (by omega), if_pos h_z]
theorem crw_no {ya yb py : Int} (h_z : ¬ (ya ≤ py ∧ py < yb)) (h2 : ¬ (yb ≤ py ∧ py < ya)) : crw ya yb py = 0 := by
  unfold crw
  rw [if_neg h_z, if_neg h2]
theorem crs_bd (xa ya xb yb px py : Int) : -1 ≤ crs xa ya xb yb px py ∧ crs xa ya xb yb px py ≤ 1 := by
  unfold crs crw
  split <;> split <;> (try split) <;> omega
theorem crs_up {xa ya xb yb px py : Int} (h_z : ya ≤ py ∧ py < yb) : (0 < cro xa ya xb yb px py ∧ crs xa ya xb yb px py = 1) ∨ (cro xa ya xb yb px py ≤ 0 ∧ crs xa ya xb yb px py = 0) := by
  unfold crs
  rw [crw_up h_z]
  by_cases c_z : 0 < cro xa ya xb yb px py
  · exact Or.inl ⟨c_z, if_pos (by omega)⟩
  · exact Or.inr ⟨by omega, if_neg (by omega)⟩
theorem crs_dn {xa ya xb yb px py : Int} (h_z : yb ≤ py ∧ py < ya) : (cro xa ya xb yb px py < 0 ∧ crs xa ya xb yb px py = -1) ∨ (0 ≤ cro xa ya xb yb px py ∧ crs xa ya xb yb px py = 0) := by
  unfold crs
  rw [crw_dn h_z]
  by_cases c_z : cro xa ya xb yb px py < 0
  · exact Or.inl ⟨c_z, if_pos (by omega)⟩
  · exact Or.inr ⟨by omega, if_neg (by omega)⟩
theorem crs_no {xa ya xb yb px py : Int} (h_z : ¬ (ya ≤ py ∧ py < yb)) (h2 : ¬ (yb ≤ py ∧ py < ya)) : crs xa ya xb yb px py = 0 := by
  unfold crs
  rw [crw_no h_z h2, Int.mul_zero, if_neg (by omega)]
theorem cro_eq (xa ya xb yb px py : Int) : cro xa ya xb yb px py = (xa - px) * (yb - py) + (xb - px) * (py - ya) := by
  unfold cro
  rw [show yb - ya = (yb - py) + (py - ya) from by omega, show xb - xa = (xb - px) - (xa - px) from by omega]
  generalize xa - px = a_z
  generalize xb - px = b_z
  generalize yb - py = q_z
  generalize py - ya = p_z
  rw [Int.mul_add, Int.mul_sub, Int.mul_comm p_z a_z, Int.mul_comm p_z b_z]
  omega
theorem crs_dnl {xa ya xb yb px py : Int} (h_z : ya ≤ py) : 0 ≤ crs xa ya xb yb px py ∧ crs xa ya xb yb px py ≤ 1 := by
  by_cases c_z : py < yb
  · have := crs_up (xa := xa) (xb := xb) (px := px) ⟨h_z, c_z⟩
    omega
  · rw [crs_no (by omega) (by omega)]
    decide
theorem crs_uph {xa ya xb yb px py : Int} (h_z : py < ya) : -1 ≤ crs xa ya xb yb px py ∧ crs xa ya xb yb px py ≤ 0 := by
  by_cases c_z : yb ≤ py
  · have := crs_dn (xa := xa) (xb := xb) (px := px) ⟨c_z, h_z⟩
    omega
  · rw [crs_no (by omega) (by omega)]
    decide
theorem crs_dnz {xa ya xb yb px py : Int} (h_z : yb ≤ py) : -1 ≤ crs xa ya xb yb px py ∧ crs xa ya xb yb px py ≤ 0 := by
  by_cases c_z : py < ya
  · exact crs_uph c_z
  · rw [crs_no (by omega) (by omega)]
    decide
theorem crs_upz {xa ya xb yb px py : Int} (h_z : py < yb) : 0 ≤ crs xa ya xb yb px py ∧ crs xa ya xb yb px py ≤ 1 := by
  by_cases c_z : ya ≤ py
  · exact crs_dnl c_z
  · rw [crs_no (by omega) (by omega)]
    decide
/-- two edges up and two down don't all lie so that one goes around twice -/
theorem quad0 {a_z b_z c_z d_z p_z q_z r_z s_z : Int} (hp : 0 ≤ p_z) (hr : 0 ≤ r_z) (hq : 0 < q_z) (hs : 0 < s_z) (h1 : 0 < a_z * q_z + b_z * p_z) (h2 : b_z * r_z + c_z * q_z ≤ 0) (h3 : 0 < c_z * s_z + d_z * r_z) (h4 : d_z * p_z + a_z * s_z ≤ 0) : False := by
  have e_z : (a_z * q_z + b_z * p_z) * (s_z * r_z) + (c_z * s_z + d_z * r_z) * (q_z * p_z) = (b_z * r_z + c_z * q_z) * (p_z * s_z) + (d_z * p_z + a_z * s_z) * (q_z * r_z) := by
    simp only [Int.add_mul]
    have e1_z : a_z * q_z * (s_z * r_z) = a_z * s_z * (q_z * r_z) := by ac_rfl
    have e2_z : b_z * p_z * (s_z * r_z) = b_z * r_z * (p_z * s_z) := by ac_rfl
    have e3_z : c_z * s_z * (q_z * p_z) = c_z * q_z * (p_z * s_z) := by ac_rfl
    have e4_z : d_z * r_z * (q_z * p_z) = d_z * p_z * (q_z * r_z) := by ac_rfl
    omega
  have l1 : 0 ≤ (c_z * s_z + d_z * r_z) * (q_z * p_z) := Int.mul_nonneg (by omega) (Int.mul_nonneg (by omega) hp)
  have l2 : (b_z * r_z + c_z * q_z) * (p_z * s_z) ≤ 0 := Int.mul_nonpos_of_nonpos_of_nonneg h2 (Int.mul_nonneg hp (by omega))
  have l3 : (d_z * p_z + a_z * s_z) * (q_z * r_z) ≤ 0 := Int.mul_nonpos_of_nonpos_of_nonneg h4 (Int.mul_nonneg (by omega) hr)
  have l0 : 0 ≤ (a_z * q_z + b_z * p_z) * (s_z * r_z) := Int.mul_nonneg (by omega) (Int.mul_nonneg (by omega) hr)
  by_cases cr : r_z = 0
  · by_cases cp_z : p_z = 0
    · subst cr
      subst cp_z
      rw [Int.mul_zero, Int.add_zero] at h1 h3
      rw [Int.mul_zero, Int.zero_add] at h2 h4
      have : 0 < c_z := Int.pos_of_mul_pos_left h3 (by omega)
      have : 0 < c_z * q_z := Int.mul_pos this hq
      omega
    · have : 0 < (c_z * s_z + d_z * r_z) * (q_z * p_z) := Int.mul_pos h3 (Int.mul_pos hq (by omega))
      omega
  · have : 0 < (a_z * q_z + b_z * p_z) * (s_z * r_z) := Int.mul_pos h1 (Int.mul_pos hs (by omega))
    omega
theorem quad1 {xa ya xb yb xc yc xd yd px py : Int} (h1 : ya ≤ py) (h2 : py < yb) (h3 : yc ≤ py) (h4 : py < yd) :
    -1 ≤ crs xa ya xb yb px py + crs xb yb xc yc px py + crs xc yc xd yd px py + crs xd yd xa ya px py ∧ crs xa ya xb yb px py + crs xb yb xc yc px py + crs xc yc xd yd px py + crs xd yd xa ya px py ≤ 1 := by
  have e1_z := cro_eq xa ya xb yb px py
  have e2_z := cro_eq xb yb xc yc px py
  have e3_z := cro_eq xc yc xd yd px py
  have e4_z := cro_eq xd yd xa ya px py
  have n2_z : (xb - px) * (yc - py) + (xc - px) * (py - yb) = -((xb - px) * (py - yc) + (xc - px) * (yb - py)) := by
    rw [show yc - py = -(py - yc) from by omega, show py - yb = -(yb - py) from by omega, Int.mul_neg, Int.mul_neg]
    omega
  have n4_z : (xd - px) * (ya - py) + (xa - px) * (py - yd) = -((xd - px) * (py - ya) + (xa - px) * (yd - py)) := by
    rw [show ya - py = -(py - ya) from by omega, show py - yd = -(yd - py) from by omega, Int.mul_neg, Int.mul_neg]
    omega
  have u1_z := crs_up (xa := xa) (xb := xb) (px := px) ⟨h1, h2⟩
  have u2_z := crs_dn (xa := xb) (xb := xc) (px := px) ⟨h3, h2⟩
  have u3 := crs_up (xa := xc) (xb := xd) (px := px) ⟨h3, h4⟩
  have u4_z := crs_dn (xa := xd) (xb := xa) (px := px) ⟨h1, h4⟩
  have k1_z := fun w1_z w2_z w3_z w4_z => quad0 (a_z := xa - px) (b_z := xb - px) (c_z := xc - px) (d_z := xd - px) (p_z := py - ya) (q_z := yb - py) (r_z := py - yc) (s_z := yd - py) (by omega) (by omega) (by omega) (by omega) w1_z w2_z w3_z w4_z
  have k2_z := fun w1_z w2_z w3_z w4_z => quad0 (a_z := xa - px) (b_z := xd - px) (c_z := xc - px) (d_z := xb - px) (p_z := py - ya) (q_z := yd - py) (r_z := py - yc) (s_z := yb - py) (by omega) (by omega) (by omega) (by omega) w1_z w2_z w3_z w4_z
  generalize crs xa ya xb yb px py = c1_z at *
  generalize crs xb yb xc yc px py = c2_z at *
  generalize crs xc yc xd yd px py = c3_z at *
  generalize crs xd yd xa ya px py = c4_z at *
  rw [e1_z] at u1_z
  rw [e2_z, n2_z] at u2_z
  rw [e3_z] at u3
  rw [e4_z, n4_z] at u4_z
  clear e1_z e2_z e3_z e4_z n2_z n4_z
  generalize (xa - px) * (yb - py) = t1_z at *
  generalize (xb - px) * (py - ya) = t2_z at *
  generalize (xb - px) * (py - yc) = t3_z at *
  generalize (xc - px) * (yb - py) = t4_z at *
  generalize (xc - px) * (yd - py) = t5_z at *
  generalize (xd - px) * (py - yc) = t6 at *
  generalize (xd - px) * (py - ya) = t7 at *
  generalize (xa - px) * (yd - py) = t8 at *
  rcases u1_z with ⟨u1_z, v1_z⟩ | ⟨u1_z, v1_z⟩ <;> rcases u2_z with ⟨u2_z, v2⟩ | ⟨u2_z, v2⟩ <;> rcases u3 with ⟨u3, v3⟩ | ⟨u3, v3⟩ <;> rcases u4_z with ⟨u4_z, v4⟩ | ⟨u4_z, v4⟩ <;> first | (clear k1_z k2_z; omega) | exact (k1_z (by omega) (by omega) (by omega) (by omega)).elim | exact (k2_z (by omega) (by omega) (by omega) (by omega)).elim

/-- the sum over the edges from 0 to k_z - 1 -/
def csm (X_z Y : Int → Int) (nx : Nat → Int) (px py : Int) : Nat → Int
  | 0 => 0
  | k_z + 1 => csm X_z Y nx px py k_z + crs (X_z k_z) (Y k_z) (X_z (nx k_z)) (Y (nx k_z)) px py
theorem csm_bd (X_z Y : Int → Int) (nx : Nat → Int) (px py : Int) (k_z : Nat) : -(k_z : Int) ≤ csm X_z Y nx px py k_z ∧ csm X_z Y nx px py k_z ≤ k_z := by
  induction k_z with
  | zero => exact ⟨by simp [csm], by simp [csm]⟩
  | succ k_z ih_z =>
    have := crs_bd (X_z k_z) (Y k_z) (X_z (nx k_z)) (Y (nx k_z)) px py
    unfold csm
    omega
/-- where the part of point k_z starts, and the point behind it -/
def fsP (F_z : Int → Int) : Nat → Int
  | 0 => 0
  | k_z + 1 => if F_z ((k_z : Int) + 1) = 0 then fsP F_z k_z else (k_z : Int) + 1
def nxP (F_z : Int → Int) (n_z : Int) (k_z : Nat) : Int := if (k_z : Int) + 1 < n_z ∧ F_z ((k_z : Int) + 1) = 0 then (k_z : Int) + 1 else fsP F_z k_z
theorem fsP_bd (F_z : Int → Int) (k_z : Nat) : 0 ≤ fsP F_z k_z ∧ fsP F_z k_z ≤ k_z := by
  induction k_z with
  | zero => exact ⟨by simp [fsP], by simp [fsP]⟩
  | succ k_z ih_z =>
    unfold fsP
    split <;> omega
theorem nxP_bd {F_z : Int → Int} {n_z : Int} {k_z : Nat} (h_z : (k_z : Int) < n_z) : 0 ≤ nxP F_z n_z k_z ∧ nxP F_z n_z k_z < n_z := by
  have := fsP_bd F_z k_z
  unfold nxP
  split <;> omega
theorem PB.mono {F_z : Int → Int} {n_z : Int} {Bg : Int → Int} {K_z : Int} (h_z : PB F_z n_z Bg K_z) (i_z : Int) (d_z : Nat) (i0_z : 0 ≤ i_z) (i1_z : i_z + 1 + d_z < K_z) : Bg i_z < Bg (i_z + 1 + d_z) := by
  obtain ⟨-, -, -, -, h5, -⟩ := h_z
  induction d_z with
  | zero =>
    have := h5 i_z i0_z (by omega)
    rw [show i_z + 1 + ((0 : Nat) : Int) = i_z + 1 from by omega]
    exact this
  | succ d_z ih_z =>
    have := ih_z (by omega)
    have := h5 (i_z + 1 + d_z) (by omega) (by omega)
    rw [show i_z + 1 + (((d_z + 1 : Nat)) : Int) = i_z + 1 + d_z + 1 from by omega]
    omega
theorem PB.mono2 {F_z : Int → Int} {n_z : Int} {Bg : Int → Int} {K_z : Int} (h_z : PB F_z n_z Bg K_z) {i_z j_z : Int} (i0_z : 0 ≤ i_z) (ij : i_z < j_z) (j1 : j_z < K_z) : Bg i_z < Bg j_z := by
  have := PB.mono h_z i_z (j_z - i_z - 1).toNat i0_z (by omega)
  rw [show i_z + 1 + (((j_z - i_z - 1).toNat : Nat) : Int) = j_z from by omega] at this
  exact this
/-- the start of the part that point k_z lies in -/
theorem fsP_eq {F_z : Int → Int} {n_z : Int} {Bg : Int → Int} {K_z : Int} (h_z : PB F_z n_z Bg K_z) (hF : ∀ i_z, 0 ≤ i_z → i_z < n_z → F_z i_z = 0 ∨ F_z i_z = 1) {j_z : Int} (j0 : 0 ≤ j_z) (j1 : j_z < K_z) : ∀ k_z : Nat, Bg j_z ≤ k_z → (j_z + 1 < K_z → (k_z : Int) < Bg (j_z + 1)) → (k_z : Int) < n_z → fsP F_z k_z = Bg j_z := by
  have h2 := h_z
  obtain ⟨h0, -, h3, h4, h5, h6⟩ := h2
  intro k_z
  induction k_z with
  | zero =>
    intro a_z _ _
    have := h4 j_z j0 j1
    show (0 : Int) = Bg j_z
    omega
  | succ k_z ih_z =>
    intro a_z b_z c_z
    have q4_z := h4 j_z j0 j1
    unfold fsP
    by_cases cf_z : F_z ((k_z : Int) + 1) = 0
    · rw [if_pos cf_z]
      refine ih_z ?_ (fun q_z => ?_) (by omega)
      · by_cases e_z : Bg j_z = (k_z : Int) + 1
        · rw [e_z] at q4_z
          omega
        · omega
      · have := b_z q_z
        omega
    · rw [if_neg cf_z]
      have c1_z : F_z ((k_z : Int) + 1) = 1 := by
        have := hF ((k_z : Int) + 1) (by omega) (by omega)
        omega
      obtain ⟨i_z, i0_z, i1_z, i2_z⟩ := h6 ((k_z : Int) + 1) (by omega) (by omega) c1_z
      by_cases lt : i_z < j_z
      · have := PB.mono2 h_z i0_z lt j1
        omega
      · by_cases e_z : i_z = j_z
        · rw [← e_z, i2_z]
        · have g_z := b_z (by omega)
          by_cases e2_z : i_z = j_z + 1
          · rw [← e2_z] at g_z
            omega
          · have := PB.mono2 h_z (i_z := j_z + 1) (j_z := i_z) (by omega) (by omega) i1_z
            omega
/-- of four points in one part the sum is small -/
theorem csm4 {X_z Y F_z Bg : Int → Int} {px py : Int} (h_z : PB F_z 4 Bg 1) (hF : ∀ i_z, 0 ≤ i_z → i_z < 4 → F_z i_z = 0 ∨ F_z i_z = 1) : -1 ≤ csm X_z Y (nxP F_z 4) px py 4 ∧ csm X_z Y (nxP F_z 4) px py 4 ≤ 1 := by
  have h2 := h_z
  obtain ⟨h0, -, h3, h4, h5, h6⟩ := h2
  have b0 := (h3 (by decide)).2
  have ff_z : ∀ k_z : Nat, k_z < 4 → fsP F_z k_z = 0 := fun k_z hk => by
    rw [fsP_eq h_z hF (j_z := 0) (by decide) (by decide) k_z (by omega) (fun q_z => by omega) (by omega), b0]
  have fz : ∀ i_z : Int, 0 < i_z → i_z < 4 → F_z i_z = 0 := fun i_z i0_z i1_z => by
    rcases hF i_z (by omega) i1_z with q_z | q_z
    · exact q_z
    · obtain ⟨j_z, j0, j1, j2_z⟩ := h6 i_z (by omega) i1_z q_z
      have : j_z = 0 := by omega
      subst this
      omega
  have n0_z : nxP F_z 4 0 = 1 := if_pos ⟨by decide, fz _ (by decide) (by decide)⟩
  have n1_z : nxP F_z 4 1 = 2 := if_pos ⟨by decide, fz _ (by decide) (by decide)⟩
  have n2_z : nxP F_z 4 2 = 3 := if_pos ⟨by decide, fz _ (by decide) (by decide)⟩
  have n3_z : nxP F_z 4 3 = 0 := by
    unfold nxP
    rw [if_neg (by omega), ff_z 3 (by decide)]
  have e_z : csm X_z Y (nxP F_z 4) px py 4 = 0 + crs (X_z 0) (Y 0) (X_z 1) (Y 1) px py + crs (X_z 1) (Y 1) (X_z 2) (Y 2) px py + crs (X_z 2) (Y 2) (X_z 3) (Y 3) px py + crs (X_z 3) (Y 3) (X_z 0) (Y 0) px py := by
    simp only [csm, n0_z, n1_z, n2_z, n3_z]
    rfl
  rw [e_z]
  have lo_z := fun (xa ya xb yb : Int) (h_z : ya ≤ py) => crs_dnl (xa := xa) (ya := ya) (xb := xb) (yb := yb) (px := px) (py := py) h_z
  have hi_z := fun (xa ya xb yb : Int) (h_z : py < ya) => crs_uph (xa := xa) (ya := ya) (xb := xb) (yb := yb) (px := px) (py := py) h_z
  have lz := fun (xa ya xb yb : Int) (h_z : yb ≤ py) => crs_dnz (xa := xa) (ya := ya) (xb := xb) (yb := yb) (px := px) (py := py) h_z
  have hz := fun (xa ya xb yb : Int) (h_z : py < yb) => crs_upz (xa := xa) (ya := ya) (xb := xb) (yb := yb) (px := px) (py := py) h_z
  have q1_z := fun a_z b_z c_z d_z => quad1 (xa := X_z 0) (ya := Y 0) (xb := X_z 1) (yb := Y 1) (xc := X_z 2) (yc := Y 2) (xd := X_z 3) (yd := Y 3) (px := px) (py := py) a_z b_z c_z d_z
  have q2_z := fun a_z b_z c_z d_z => quad1 (xa := X_z 1) (ya := Y 1) (xb := X_z 2) (yb := Y 2) (xc := X_z 3) (yc := Y 3) (xd := X_z 0) (yd := Y 0) (px := px) (py := py) a_z b_z c_z d_z
  have z0 := lz (X_z 0) (Y 0) (X_z 1) (Y 1)
  have z1 := lz (X_z 1) (Y 1) (X_z 2) (Y 2)
  have z2 := lz (X_z 2) (Y 2) (X_z 3) (Y 3)
  have z3 := lz (X_z 3) (Y 3) (X_z 0) (Y 0)
  have y0 := hz (X_z 0) (Y 0) (X_z 1) (Y 1)
  have y1 := hz (X_z 1) (Y 1) (X_z 2) (Y 2)
  have y2 := hz (X_z 2) (Y 2) (X_z 3) (Y 3)
  have y3 := hz (X_z 3) (Y 3) (X_z 0) (Y 0)
  have l0 := lo_z (X_z 0) (Y 0) (X_z 1) (Y 1)
  have l1 := lo_z (X_z 1) (Y 1) (X_z 2) (Y 2)
  have l2 := lo_z (X_z 2) (Y 2) (X_z 3) (Y 3)
  have l3 := lo_z (X_z 3) (Y 3) (X_z 0) (Y 0)
  have g0 := hi_z (X_z 0) (Y 0) (X_z 1) (Y 1)
  have g1 := hi_z (X_z 1) (Y 1) (X_z 2) (Y 2)
  have g2 := hi_z (X_z 2) (Y 2) (X_z 3) (Y 3)
  have g3_z := hi_z (X_z 3) (Y 3) (X_z 0) (Y 0)
  clear lo_z hi_z lz hz e_z n0_z n1_z n2_z n3_z ff_z fz h_z h0 h3 h4 h5 h6 hF
  generalize crs (X_z 0) (Y 0) (X_z 1) (Y 1) px py = c0_z at *
  generalize crs (X_z 1) (Y 1) (X_z 2) (Y 2) px py = c1_z at *
  generalize crs (X_z 2) (Y 2) (X_z 3) (Y 3) px py = c2_z at *
  generalize crs (X_z 3) (Y 3) (X_z 0) (Y 0) px py = c3_z at *
  by_cases a0_z : Y 0 ≤ py <;> by_cases a1_z : Y 1 ≤ py <;> by_cases a2 : Y 2 ≤ py <;> by_cases a3 : Y 3 ≤ py <;> (try simp only [Int.not_le] at a0_z) <;> (try simp only [Int.not_le] at a1_z) <;> (try simp only [Int.not_le] at a2) <;> (try simp only [Int.not_le] at a3)
  all_goals first
    | (have := q1_z a0_z a1_z a2 a3; omega)
    | (have := q2_z a1_z a2 a3 a0_z; omega)
    | (clear q1_z q2_z; omega)
