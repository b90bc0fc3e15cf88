/-! THE PURE PART, part 14: the four corners of a rectangle are added. Own work. -/
theorem PC.congr2 {xs ys fl_z : Int → Int} {a_z n_z : Int} {mx_z my mb mx' my' mb' : Int → Int} {b_z k_z : Int} (h_z : PC xs ys fl_z a_z n_z mx_z my mb b_z k_z) (e2_z : ∀ i_z, 0 ≤ i_z → i_z < n_z → mx' (b_z + i_z) = mx_z (b_z + i_z) ∧ my' (b_z + i_z) = my (b_z + i_z)) (e3_z : ∀ i_z, 0 ≤ i_z → i_z < k_z → mb' (b_z + i_z) = mb (b_z + i_z)) : PC xs ys fl_z a_z n_z mx' my' mb' b_z k_z := by
  obtain ⟨h1, h2, h3, h4⟩ := h_z
  refine ⟨h1, h2, fun i_z i0_z i1_z => ?_, PB.congr h4 (fun i_z i0_z i1_z => rfl) e3_z⟩
  obtain ⟨q4_z, q5_z⟩ := e2_z i_z i0_z i1_z
  rw [q4_z, q5_z]
  exact h3 i_z i0_z i1_z
theorem PC.up {xs ys fl_z : Int → Int} {a_z n_z : Int} {mx_z my mb : Int → Int} {b_z k_z X_z Y : Int} (h_z : PC xs ys fl_z a_z n_z mx_z my mb b_z k_z) (hn : n_z < 24) (bx : X_z.natAbs ≤ 16000) (bd : Y.natAbs ≤ 16000) : PC (upf xs (a_z + n_z) X_z) (upf ys (a_z + n_z) Y) (upf fl_z (a_z + n_z) 1) a_z (n_z + 1) (upf mx_z (b_z + n_z) X_z) (upf my (b_z + n_z) Y) (upf mb (b_z + k_z) n_z) b_z (k_z + 1) := by
  refine PC.add (X_z := X_z) (Y := Y) h_z hn (fun i_z i0_z i1_z => ?_) (fun i_z i0_z i1_z => ?_) (fun i_z i0_z i1_z => ?_) (upf_at _ _ _) (upf_at _ _ _) (upf_at _ _ _) (upf_at _ _ _) bx bd (Or.inl ⟨upf_at _ _ _, rfl, upf_at _ _ _⟩)
  · rw [upf_ne _ _ (by omega), upf_ne _ _ (by omega), upf_ne _ _ (by omega)]
    exact ⟨rfl, rfl, rfl⟩
  · rw [upf_ne _ _ (by omega), upf_ne _ _ (by omega)]
    exact ⟨rfl, rfl⟩
  · rw [upf_ne _ _ (by omega)]
theorem PC.up0 {xs ys fl_z : Int → Int} {a_z n_z : Int} {mx_z my mb : Int → Int} {b_z k_z X_z Y : Int} (h_z : PC xs ys fl_z a_z n_z mx_z my mb b_z k_z) (hn : n_z < 24) (h0 : 0 < n_z) (bx : X_z.natAbs ≤ 16000) (bd : Y.natAbs ≤ 16000) : PC (upf xs (a_z + n_z) X_z) (upf ys (a_z + n_z) Y) (upf fl_z (a_z + n_z) 0) a_z (n_z + 1) (upf mx_z (b_z + n_z) X_z) (upf my (b_z + n_z) Y) mb b_z k_z := by
  refine PC.add (X_z := X_z) (Y := Y) h_z hn (fun i_z i0_z i1_z => ?_) (fun i_z i0_z i1_z => ?_) (fun i_z i0_z i1_z => rfl) (upf_at _ _ _) (upf_at _ _ _) (upf_at _ _ _) (upf_at _ _ _) bx bd (Or.inr ⟨upf_at _ _ _, rfl, h0⟩)
  · rw [upf_ne _ _ (by omega), upf_ne _ _ (by omega), upf_ne _ _ (by omega)]
    exact ⟨rfl, rfl, rfl⟩
  · rw [upf_ne _ _ (by omega), upf_ne _ _ (by omega)]
    exact ⟨rfl, rfl⟩
/-- four entries more -/
def up4 (f_z : Int → Int) (k_z : Int) (X_z : Int → Int) : Int → Int := upf (upf (upf (upf f_z k_z (X_z 0)) (k_z + 1) (X_z 1)) (k_z + 1 + 1) (X_z 2)) (k_z + 1 + 1 + 1) (X_z 3)
theorem up4_ne {f_z X_z : Int → Int} {k_z i_z : Int} (h_z : i_z < k_z ∨ k_z + 4 ≤ i_z) : up4 f_z k_z X_z i_z = f_z i_z := by
  unfold up4
  rw [upf_ne _ _ (by omega), upf_ne _ _ (by omega), upf_ne _ _ (by omega), upf_ne _ _ (by omega)]
theorem up4_in {f_z X_z : Int → Int} {k_z j_z : Int} (h0 : 0 ≤ j_z) (h1 : j_z < 4) : up4 f_z k_z X_z (k_z + j_z) = X_z j_z := by
  unfold up4
  by_cases c3_z : j_z = 3
  · subst c3_z
    rw [show k_z + 3 = k_z + 1 + 1 + 1 from by omega, upf_at]
  · rw [upf_ne _ _ (by omega)]
    by_cases c2_z : j_z = 2
    · subst c2_z
      rw [show k_z + 2 = k_z + 1 + 1 from by omega, upf_at]
    · rw [upf_ne _ _ (by omega)]
      by_cases c1_z : j_z = 1
      · subst c1_z
        rw [upf_at]
      · have : j_z = 0 := by omega
        subst this
        rw [upf_ne _ _ (by omega), Int.add_zero, upf_at]
/-- the flags of a part of four points -/
def fl4 (j_z : Int) : Int := if j_z = 0 then 1 else 0
theorem PC.add4 {xs ys fl_z : Int → Int} {a_z n_z : Int} {mx_z my mb mx' my' mb' X_z Y : Int → Int} {b_z k_z : Int} (h_z : PC xs ys fl_z a_z n_z mx_z my mb b_z k_z) (hn : n_z + 4 ≤ 24) (bx : ∀ j_z, 0 ≤ j_z → j_z < 4 → (X_z j_z).natAbs ≤ 16000) (bd : ∀ j_z, 0 ≤ j_z → j_z < 4 → (Y j_z).natAbs ≤ 16000) (e1_z : ∀ i_z, 0 ≤ i_z → i_z < n_z → mx' (b_z + i_z) = mx_z (b_z + i_z) ∧ my' (b_z + i_z) = my (b_z + i_z)) (e2_z : ∀ j_z, 0 ≤ j_z → j_z < 4 → mx' (b_z + n_z + j_z) = X_z j_z ∧ my' (b_z + n_z + j_z) = Y j_z) (e3_z : ∀ i_z, 0 ≤ i_z → i_z < k_z → mb' (b_z + i_z) = mb (b_z + i_z)) (e4_z : mb' (b_z + k_z) = n_z) : PC (up4 xs (a_z + n_z) X_z) (up4 ys (a_z + n_z) Y) (up4 fl_z (a_z + n_z) fl4) a_z (n_z + 4) mx' my' mb' b_z (k_z + 1) := by
  have n0_z := h_z.1
  have s1_z := PC.up h_z (by omega) (bx 0 (by omega) (by omega)) (bd 0 (by omega) (by omega))
  have s2_z := PC.up0 s1_z (by omega) (by omega) (bx 1 (by omega) (by omega)) (bd 1 (by omega) (by omega))
  have s3_z := PC.up0 s2_z (by omega) (by omega) (bx 2 (by omega) (by omega)) (bd 2 (by omega) (by omega))
  have s4_z := PC.up0 s3_z (by omega) (by omega) (bx 3 (by omega) (by omega)) (bd 3 (by omega) (by omega))
  have q1_z : a_z + (n_z + 1) = a_z + n_z + 1 := by omega
  have q2_z : a_z + (n_z + 1 + 1) = a_z + n_z + 1 + 1 := by omega
  have q3_z : a_z + (n_z + 1 + 1 + 1) = a_z + n_z + 1 + 1 + 1 := by omega
  have p1_z : b_z + (n_z + 1) = b_z + n_z + 1 := by omega
  have p2_z : b_z + (n_z + 1 + 1) = b_z + n_z + 1 + 1 := by omega
  have p3_z : b_z + (n_z + 1 + 1 + 1) = b_z + n_z + 1 + 1 + 1 := by omega
  have n4_z : n_z + 1 + 1 + 1 + 1 = n_z + 4 := by omega
  rw [n4_z, q1_z, q2_z, q3_z, p1_z, p2_z, p3_z] at s4_z
  have s5 : PC (up4 xs (a_z + n_z) X_z) (up4 ys (a_z + n_z) Y) (up4 fl_z (a_z + n_z) fl4) a_z (n_z + 4) (up4 mx_z (b_z + n_z) X_z) (up4 my (b_z + n_z) Y) (upf mb (b_z + k_z) n_z) b_z (k_z + 1) := s4_z
  refine PC.congr2 s5 (fun i_z i0_z i1_z => ?_) (fun i_z i0_z i1_z => ?_)
  · by_cases c_z : i_z < n_z
    · obtain ⟨a1_z, a2⟩ := e1_z i_z i0_z c_z
      rw [a1_z, a2, up4_ne (by omega), up4_ne (by omega)]
      exact ⟨rfl, rfl⟩
    · obtain ⟨a1_z, a2⟩ := e2_z (i_z - n_z) (by omega) (by omega)
      have a3 := up4_in (f_z := mx_z) (k_z := b_z + n_z) (j_z := i_z - n_z) (X_z := X_z) (by omega) (by omega)
      have a4 := up4_in (f_z := my) (k_z := b_z + n_z) (j_z := i_z - n_z) (X_z := Y) (by omega) (by omega)
      rw [show b_z + n_z + (i_z - n_z) = b_z + i_z from by omega] at a1_z a2 a3 a4
      rw [a1_z, a2, a3, a4]
      exact ⟨rfl, rfl⟩
  · by_cases c_z : i_z = k_z
    · subst c_z
      rw [e4_z, upf_at]
    · rw [e3_z i_z i0_z (by omega), upf_ne _ _ (by omega)]
/-- what four points change of the pool -/
theorem pAdd4_f {M_z : Mem} {r_z a_z : Nat} {k_z : Int} (hk : gI M_z r_z 6 = k_z) : (∀ b_z, b_z ≠ r_z → b_z ≠ r_z + 1 → b_z ≠ r_z + 2 → b_z ≠ r_z + 3 → gI (pAdd4 M_z r_z a_z) b_z = gI M_z b_z) ∧ (∀ j_z, j_z ≠ 6 → gI (pAdd4 M_z r_z a_z) r_z j_z = gI M_z r_z j_z) ∧ gI (pAdd4 M_z r_z a_z) r_z 6 = k_z + 4 ∧ gI (pAdd4 M_z r_z a_z) (r_z + 1) = up4 (gI M_z (r_z + 1)) k_z (fun j_z => gI M_z a_z (2 * j_z)) ∧ gI (pAdd4 M_z r_z a_z) (r_z + 2) = up4 (gI M_z (r_z + 2)) k_z (fun j_z => gI M_z a_z (2 * j_z + 1)) ∧ gI (pAdd4 M_z r_z a_z) (r_z + 3) = up4 (gI M_z (r_z + 3)) k_z fl4 := by
  have o : ∀ (M_z : Mem) (x_z y_z z_z k_z : Int), gI M_z r_z 6 = k_z → (∀ b_z, b_z ≠ r_z → b_z ≠ r_z + 1 → b_z ≠ r_z + 2 → b_z ≠ r_z + 3 → gI (pAdd M_z r_z x_z y_z z_z) b_z = gI M_z b_z) ∧ (∀ j_z, j_z ≠ 6 → gI (pAdd M_z r_z x_z y_z z_z) r_z j_z = gI M_z r_z j_z) ∧ gI (pAdd M_z r_z x_z y_z z_z) r_z 6 = k_z + 1 ∧ gI (pAdd M_z r_z x_z y_z z_z) (r_z + 1) = upf (gI M_z (r_z + 1)) k_z x_z ∧ gI (pAdd M_z r_z x_z y_z z_z) (r_z + 2) = upf (gI M_z (r_z + 2)) k_z y_z ∧ gI (pAdd M_z r_z x_z y_z z_z) (r_z + 3) = upf (gI M_z (r_z + 3)) k_z z_z := by
    intro M_z x_z y_z z_z k_z hk
    unfold pAdd
    rw [hk]
    refine ⟨fun b_z b0 b1 b2 b3 => ?_, fun j_z j6_z => ?_, rI_at, ?_, ?_, ?_⟩
    · rw [rI_ne b0, rI_ne b3, rI_ne b2, rI_ne b1]
    · rw [rI_nk j6_z, rI_ne (by omega), rI_ne (by omega), rI_ne (by omega)]
    · rw [rI_ne (by omega), rI_ne (by omega), rI_ne (by omega), rI_row]
    · rw [rI_ne (by omega), rI_ne (by omega), rI_row, rI_ne (by omega)]
    · rw [rI_ne (by omega), rI_row, rI_ne (by omega), rI_ne (by omega)]
  unfold pAdd4
  generalize hx0 : gI M_z a_z 0 = x0_z
  generalize hy0 : gI M_z a_z 1 = y0
  generalize hx1 : gI M_z a_z 2 = x1_z
  generalize hy1 : gI M_z a_z 3 = y1
  generalize hx2 : gI M_z a_z 4 = x2_z
  generalize hy2 : gI M_z a_z 5 = y2
  generalize hx3 : gI M_z a_z 6 = x3
  generalize hy3 : gI M_z a_z 7 = y3
  obtain ⟨a1_z, a2, a3, a4, a5, a6⟩ := o M_z x0_z y0 1 k_z hk
  obtain ⟨b1, b2, b3, b4, b5, b6⟩ := o (pAdd M_z r_z x0_z y0 1) x1_z y1 0 (k_z + 1) a3
  obtain ⟨c1_z, c2_z, c3_z, c4_z, c5_z, c6_z⟩ := o (pAdd (pAdd M_z r_z x0_z y0 1) r_z x1_z y1 0) x2_z y2 0 (k_z + 1 + 1) b3
  obtain ⟨d1_z, d2_z, d3_z, d4_z, d5_z, d6_z⟩ := o (pAdd (pAdd (pAdd M_z r_z x0_z y0 1) r_z x1_z y1 0) r_z x2_z y2 0) x3 y3 0 (k_z + 1 + 1 + 1) c3_z
  refine ⟨fun b_z q0 q1_z q2_z q3_z => ?_, fun j_z j6_z => ?_, ?_, ?_, ?_, ?_⟩
  · rw [d1_z b_z q0 q1_z q2_z q3_z, c1_z b_z q0 q1_z q2_z q3_z, b1 b_z q0 q1_z q2_z q3_z, a1_z b_z q0 q1_z q2_z q3_z]
  · rw [d2_z j_z j6_z, c2_z j_z j6_z, b2 j_z j6_z, a2 j_z j6_z]
  · rw [d3_z]
    omega
  · rw [d4_z, c4_z, b4, a4, ← hx0, ← hx1, ← hx2, ← hx3]
    rfl
  · rw [d5_z, c5_z, b5, a5, ← hy0, ← hy1, ← hy2, ← hy3]
    rfl
  · rw [d6_z, c6_z, b6, a6]
    rfl
