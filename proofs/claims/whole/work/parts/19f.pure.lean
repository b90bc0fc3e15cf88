/-! THE PURE PART, part 19: the start of the law, and all of it. Own work. -/
/-- the model's row at the start -/
def fmI (k_z i_z : Int) : Int := if 0 ≤ i_z ∧ i_z < 161 * k_z ∧ i_z % 161 = 0 then -1 else 0
theorem fmI_step {k_z : Int} (h_z : 0 ≤ k_z) : upf (fmI k_z) (161 * k_z) (-1) = fmI (k_z + 1) := by
  funext i
  unfold upf fmI
  by_cases c_z : i = 161 * k_z
  · rw [if_pos c_z, if_pos (by omega)]
  · rw [if_neg c_z]
    by_cases c2_z : 0 ≤ i ∧ i < 161 * k_z ∧ i % 161 = 0
    · rw [if_pos c2_z, if_pos (by omega)]
    · rw [if_neg c2_z, if_neg (by omega)]
def f0I : Int → Int := upf (upf (upf (fmI 7) 1213 12) 1214 12) 1215 120
theorem f0_pg {x_z : Int} (h0 : 0 ≤ x_z) (h1 : x_z < 7) : f0I (161 * x_z) = -1 := by
  unfold f0I upf fmI
  rw [if_neg (by omega), if_neg (by omega), if_neg (by omega), if_pos (by omega)]
theorem f0_mid {i_z : Int} (h0 : 1127 ≤ i_z) (h1 : i_z < 1213) : f0I i_z = 0 := by
  unfold f0I upf fmI
  rw [if_neg (by omega), if_neg (by omega), if_neg (by omega), if_neg (by omega)]
def finL : List Sp := saL 6
theorem fin_len : finL.length = 192 := by decide +kernel
theorem fin_fr : ∀ t_z : Nat, t_z < 5 → lkR (sp finL 16).2.2.1 (t_z : Int) = 37 + 4 * t_z ∧ (sp finL (37 + 4 * t_z)).1 = 8 ∧ (sp finL (38 + 4 * t_z)).1 = 101 ∧ (sp finL (38 + 4 * t_z)).2.1 = 16 ∧ (sp finL (39 + 4 * t_z)).1 = 100 ∧ (sp finL (39 + 4 * t_z)).2.1 = 3 ∧ (sp finL (40 + 4 * t_z)).1 = 100 ∧ (sp finL (40 + 4 * t_z)).2.1 = 3 ∧ lkR (sp finL (37 + 4 * t_z)).2.2.1 0 = 38 + 4 * t_z ∧ lkR (sp finL (37 + 4 * t_z)).2.2.1 1 = 39 + 4 * t_z ∧ lkR (sp finL (37 + 4 * t_z)).2.2.1 2 = 40 + 4 * t_z := by decide +kernel
theorem fin_gr : ∀ t_z : Nat, t_z < 35 → lkR (sp finL 17).2.2.1 (t_z : Int) = 57 + 3 * t_z ∧ (sp finL (57 + 3 * t_z)).1 = 9 ∧ (sp finL (58 + 3 * t_z)).1 = 101 ∧ (sp finL (58 + 3 * t_z)).2.1 = 6 ∧ (sp finL (59 + 3 * t_z)).1 = 100 ∧ (sp finL (59 + 3 * t_z)).2.1 = 6 ∧ lkR (sp finL (57 + 3 * t_z)).2.2.1 0 = 58 + 3 * t_z ∧ lkR (sp finL (57 + 3 * t_z)).2.2.1 1 = 59 + 3 * t_z := by decide +kernel
theorem fin_sa : ∀ t_z : Nat, t_z < 6 → lkR (sp finL 14).2.2.1 (t_z : Int) = 162 + 5 * t_z ∧ (sp finL (162 + 5 * t_z)).1 = 4 ∧ (sp finL (163 + 5 * t_z)).1 = 119 ∧ (sp finL (163 + 5 * t_z)).2.1 = 7 ∧ (sp finL (164 + 5 * t_z)).1 = 102 ∧ (sp finL (164 + 5 * t_z)).2.1 = 6 ∧ (sp finL (165 + 5 * t_z)).1 = 100 ∧ (sp finL (165 + 5 * t_z)).2.1 = 24 ∧ (sp finL (166 + 5 * t_z)).1 = 100 ∧ (sp finL (166 + 5 * t_z)).2.1 = 56 ∧ lkR (sp finL (162 + 5 * t_z)).2.2.1 0 = 163 + 5 * t_z ∧ lkR (sp finL (162 + 5 * t_z)).2.2.1 1 = 164 + 5 * t_z ∧ lkR (sp finL (162 + 5 * t_z)).2.2.1 2 = 165 + 5 * t_z ∧ lkR (sp finL (162 + 5 * t_z)).2.2.1 3 = 166 + 5 * t_z := by decide +kernel
/-- the cells of X, wherever -/
def Cl (b : Nat) (M : Mem) : Prop := ∀ i_z, i_z < 192 → gK M (b + 1 + i_z) = (sp finL i_z).1 ∧ gN M (b + 1 + i_z) = (sp finL i_z).2.1 ∧ (∀ f_z, gR M (b + 1 + i_z) f_z = adr (b + 1) (lkR (sp finL i_z).2.2.1 f_z)) ∧ ∀ k_z, gI M (b + 1 + i_z) k_z = lkI (sp finL i_z).2.2.2 k_z
section PU
variable {G : Env0} {Q : Option AV → Mem → Prop} {M M0 : Mem} {b B : Nat}
theorem Cl.k {v_z : Nat} (h_z : Cl b M) (i_z a_z : Nat) (ha_z : a_z = b + 1 + i_z) (hi_z : i_z < 192) (hv : (sp finL i_z).1 = v_z) : gK M a_z = v_z := by
  rw [ha_z, ← hv]
  exact (h_z i_z hi_z).1
theorem Cl.n {v_z : Int} (h_z : Cl b M) (i_z a_z : Nat) (ha_z : a_z = b + 1 + i_z) (hi_z : i_z < 192) (hv : (sp finL i_z).2.1 = v_z) : gN M a_z = v_z := by
  rw [ha_z, ← hv]
  exact (h_z i_z hi_z).2.1
theorem Cl.r {o v_z : Nat} {f_z : Int} (h_z : Cl b M) (i_z a_z : Nat) (ha_z : a_z = b + 1 + i_z) (hi_z : i_z < 192) (hv : lkR (sp finL i_z).2.2.1 f_z = o) (ho : o ≠ 0) (ho2 : v_z = b + 1 + o) : gR M a_z f_z = v_z := by
  rw [ha_z, (h_z i_z hi_z).2.2.1 f_z, hv, ho2]
  exact if_neg ho
theorem Cl.z {f_z : Int} (h_z : Cl b M) (i_z a_z : Nat) (ha_z : a_z = b + 1 + i_z) (hi_z : i_z < 192) (hv : (sp finL i_z).2.2.1 = []) : gR M a_z f_z = 0 := by
  rw [ha_z, (h_z i_z hi_z).2.2.1 f_z, hv]
  rfl
theorem Cl.i {k_z v_z : Int} (h_z : Cl b M) (i_z a_z : Nat) (ha_z : a_z = b + 1 + i_z) (hi_z : i_z < 192) (hv : lkI (sp finL i_z).2.2.2 k_z = v_z) : gI M a_z k_z = v_z := by
  rw [ha_z, (h_z i_z hi_z).2.2.2 k_z, hv]
theorem Cl.i0 {k_z : Int} (h_z : Cl b M) (i_z a_z : Nat) (ha_z : a_z = b + 1 + i_z) (hi_z : i_z < 192) (hv : (sp finL i_z).2.2.2 = []) : gI M a_z k_z = 0 := by
  rw [ha_z, (h_z i_z hi_z).2.2.2 k_z, hv]
  rfl
theorem Cl.shX (h_z : Cl b M) : ShX M b := ⟨h_z.k 0 _ rfl (by decide) (by decide +kernel), h_z.r (o := 1) 0 _ rfl (by decide) (by decide +kernel) (by decide) rfl, h_z.r (o := 9) 0 _ rfl (by decide) (by decide +kernel) (by decide) rfl, h_z.r (o := 14) 0 _ rfl (by decide) (by decide +kernel) (by decide) rfl, h_z.r (o := 15) 0 _ rfl (by decide) (by decide +kernel) (by decide) rfl, h_z.k 14 _ rfl (by decide) (by decide +kernel), h_z.n 14 _ rfl (by decide) (by decide +kernel)⟩
theorem Cl.shRd (h_z : Cl b M) : ShRd M b := ⟨h_z.k 1 _ rfl (by decide) (by decide +kernel), h_z.r (o := 2) 1 _ rfl (by decide) (by decide +kernel) (by decide) rfl, h_z.r (o := 3) 1 _ rfl (by decide) (by decide +kernel) (by decide) rfl, h_z.r (o := 4) 1 _ rfl (by decide) (by decide +kernel) (by decide) rfl, h_z.r (o := 5) 1 _ rfl (by decide) (by decide +kernel) (by decide) rfl, h_z.r (o := 6) 1 _ rfl (by decide) (by decide +kernel) (by decide) rfl, h_z.k 2 _ rfl (by decide) (by decide +kernel), h_z.n 2 _ rfl (by decide) (by decide +kernel), h_z.k 3 _ rfl (by decide) (by decide +kernel), h_z.n 3 _ rfl (by decide) (by decide +kernel), h_z.k 4 _ rfl (by decide) (by decide +kernel), h_z.n 4 _ rfl (by decide) (by decide +kernel), h_z.k 5 _ rfl (by decide) (by decide +kernel), h_z.n 5 _ rfl (by decide) (by decide +kernel), h_z.k 6 _ rfl (by decide) (by decide +kernel), h_z.r (o := 7) 6 _ rfl (by decide) (by decide +kernel) (by decide) rfl, h_z.r (o := 8) 6 _ rfl (by decide) (by decide +kernel) (by decide) rfl, h_z.k 7 _ rfl (by decide) (by decide +kernel), h_z.n 7 _ rfl (by decide) (by decide +kernel), h_z.k 8 _ rfl (by decide) (by decide +kernel), h_z.n 8 _ rfl (by decide) (by decide +kernel)⟩
theorem Cl.shSa (h_z : Cl b M) : ShSa M (b + 10) := ⟨h_z.k 9 _ rfl (by decide) (by decide +kernel), h_z.r (o := 10) 9 _ rfl (by decide) (by decide +kernel) (by decide) rfl, h_z.r (o := 11) 9 _ rfl (by decide) (by decide +kernel) (by decide) rfl, h_z.r (o := 12) 9 _ rfl (by decide) (by decide +kernel) (by decide) rfl, h_z.r (o := 13) 9 _ rfl (by decide) (by decide +kernel) (by decide) rfl, h_z.k 10 _ rfl (by decide) (by decide +kernel), h_z.n 10 _ rfl (by decide) (by decide +kernel), h_z.k 11 _ rfl (by decide) (by decide +kernel), h_z.n 11 _ rfl (by decide) (by decide +kernel), h_z.k 12 _ rfl (by decide) (by decide +kernel), h_z.n 12 _ rfl (by decide) (by decide +kernel), h_z.k 13 _ rfl (by decide) (by decide +kernel), h_z.n 13 _ rfl (by decide) (by decide +kernel)⟩
theorem Cl.shSv (h_z : Cl b M) {j_z : Nat} (hj : j_z < 6) : ShSa M (svA b j_z) := by
  obtain ⟨-, q1_z, q2_z, q3_z, q4_z, q5_z, q6_z, q7_z, q8_z, q9_z, q10_z, q11_z, q12_z, q13_z⟩ := fin_sa j_z hj
  have e_z : svA b j_z = b + 1 + (162 + 5 * j_z) := by unfold svA; omega
  exact ⟨h_z.k (162 + 5 * j_z) _ e_z (by omega) q1_z, h_z.r (162 + 5 * j_z) _ e_z (by omega) q10_z (by omega) (by omega), h_z.r (162 + 5 * j_z) _ e_z (by omega) q11_z (by omega) (by omega), h_z.r (162 + 5 * j_z) _ e_z (by omega) q12_z (by omega) (by omega), h_z.r (162 + 5 * j_z) _ e_z (by omega) q13_z (by omega) (by omega), h_z.k (163 + 5 * j_z) _ (by omega) (by omega) q2_z, h_z.n (163 + 5 * j_z) _ (by omega) (by omega) q3_z, h_z.k (164 + 5 * j_z) _ (by omega) (by omega) q4_z, h_z.n (164 + 5 * j_z) _ (by omega) (by omega) q5_z, h_z.k (165 + 5 * j_z) _ (by omega) (by omega) q6_z, h_z.n (165 + 5 * j_z) _ (by omega) (by omega) q7_z, h_z.k (166 + 5 * j_z) _ (by omega) (by omega) q8_z, h_z.n (166 + 5 * j_z) _ (by omega) (by omega) q9_z⟩
theorem Cl.shMa (h_z : Cl b M) : ShMa M (b + 16) := by
  refine ⟨?_, ?_, ?_, fun t_z ht => ?_, fun t_z ht => ?_⟩
  · exact ⟨h_z.k 15 _ rfl (by decide) (by decide +kernel), h_z.r (o := 16) 15 _ rfl (by decide) (by decide +kernel) (by decide) rfl, h_z.r (o := 17) 15 _ rfl (by decide) (by decide +kernel) (by decide) rfl, h_z.r (o := 18) 15 _ rfl (by decide) (by decide +kernel) (by decide) rfl, h_z.r (o := 19) 15 _ rfl (by decide) (by decide +kernel) (by decide) rfl, h_z.r (o := 32) 15 _ rfl (by decide) (by decide +kernel) (by decide) rfl, h_z.r (o := 33) 15 _ rfl (by decide) (by decide +kernel) (by decide) rfl, h_z.r (o := 34) 15 _ rfl (by decide) (by decide +kernel) (by decide) rfl, h_z.r (o := 35) 15 _ rfl (by decide) (by decide +kernel) (by decide) rfl, h_z.r (o := 36) 15 _ rfl (by decide) (by decide +kernel) (by decide) rfl, h_z.k 16 _ rfl (by decide) (by decide +kernel), h_z.n 16 _ rfl (by decide) (by decide +kernel), h_z.k 17 _ rfl (by decide) (by decide +kernel), h_z.n 17 _ rfl (by decide) (by decide +kernel), h_z.k 32 _ rfl (by decide) (by decide +kernel), h_z.n 32 _ rfl (by decide) (by decide +kernel), h_z.k 33 _ rfl (by decide) (by decide +kernel), h_z.n 33 _ rfl (by decide) (by decide +kernel), h_z.k 34 _ rfl (by decide) (by decide +kernel), h_z.n 34 _ rfl (by decide) (by decide +kernel), h_z.k 35 _ rfl (by decide) (by decide +kernel), h_z.n 35 _ rfl (by decide) (by decide +kernel), h_z.k 36 _ rfl (by decide) (by decide +kernel), h_z.n 36 _ rfl (by decide) (by decide +kernel)⟩
  · exact ⟨h_z.k 19 _ rfl (by decide) (by decide +kernel), h_z.r (o := 20) 19 _ rfl (by decide) (by decide +kernel) (by decide) rfl, h_z.r (o := 21) 19 _ rfl (by decide) (by decide +kernel) (by decide) rfl, h_z.r (o := 22) 19 _ rfl (by decide) (by decide +kernel) (by decide) rfl, h_z.r (o := 23) 19 _ rfl (by decide) (by decide +kernel) (by decide) rfl, h_z.r (o := 24) 19 _ rfl (by decide) (by decide +kernel) (by decide) rfl, h_z.k 20 _ rfl (by decide) (by decide +kernel), h_z.n 20 _ rfl (by decide) (by decide +kernel), h_z.k 21 _ rfl (by decide) (by decide +kernel), h_z.n 21 _ rfl (by decide) (by decide +kernel), h_z.k 22 _ rfl (by decide) (by decide +kernel), h_z.n 22 _ rfl (by decide) (by decide +kernel), h_z.k 23 _ rfl (by decide) (by decide +kernel), h_z.n 23 _ rfl (by decide) (by decide +kernel), h_z.k 24 _ rfl (by decide) (by decide +kernel), h_z.n 24 _ rfl (by decide) (by decide +kernel)⟩
  · exact ⟨h_z.k 18 _ rfl (by decide) (by decide +kernel), h_z.r (o := 19) 18 _ rfl (by decide) (by decide +kernel) (by decide) rfl, h_z.r (o := 25) 18 _ rfl (by decide) (by decide +kernel) (by decide) rfl, h_z.r (o := 26) 18 _ rfl (by decide) (by decide +kernel) (by decide) rfl, h_z.r (o := 27) 18 _ rfl (by decide) (by decide +kernel) (by decide) rfl, h_z.r (o := 28) 18 _ rfl (by decide) (by decide +kernel) (by decide) rfl, h_z.r (o := 29) 18 _ rfl (by decide) (by decide +kernel) (by decide) rfl, h_z.r (o := 30) 18 _ rfl (by decide) (by decide +kernel) (by decide) rfl, h_z.r (o := 31) 18 _ rfl (by decide) (by decide +kernel) (by decide) rfl, h_z.k 25 _ rfl (by decide) (by decide +kernel), h_z.n 25 _ rfl (by decide) (by decide +kernel), h_z.k 26 _ rfl (by decide) (by decide +kernel), h_z.n 26 _ rfl (by decide) (by decide +kernel), h_z.k 27 _ rfl (by decide) (by decide +kernel), h_z.n 27 _ rfl (by decide) (by decide +kernel), h_z.k 28 _ rfl (by decide) (by decide +kernel), h_z.n 28 _ rfl (by decide) (by decide +kernel), h_z.k 29 _ rfl (by decide) (by decide +kernel), h_z.n 29 _ rfl (by decide) (by decide +kernel), h_z.k 30 _ rfl (by decide) (by decide +kernel), h_z.n 30 _ rfl (by decide) (by decide +kernel), h_z.k 31 _ rfl (by decide) (by decide +kernel), h_z.n 31 _ rfl (by decide) (by decide +kernel)⟩
  · obtain ⟨q0, q1_z, q2_z, q3_z, q4_z, q5_z, q6_z, q7_z, q8_z, q9_z, q10_z⟩ := fin_fr t_z ht
    have e_z : b + 16 + 22 + 4 * t_z = b + 1 + (37 + 4 * t_z) := by omega
    exact ⟨h_z.r 16 _ rfl (by decide) q0 (by omega) (by omega), ⟨h_z.k (37 + 4 * t_z) _ e_z (by omega) q1_z, h_z.r (37 + 4 * t_z) _ e_z (by omega) q8_z (by omega) (by omega), h_z.r (37 + 4 * t_z) _ e_z (by omega) q9_z (by omega) (by omega), h_z.r (37 + 4 * t_z) _ e_z (by omega) q10_z (by omega) (by omega), h_z.k (38 + 4 * t_z) _ (by omega) (by omega) q2_z, h_z.n (38 + 4 * t_z) _ (by omega) (by omega) q3_z, h_z.k (39 + 4 * t_z) _ (by omega) (by omega) q4_z, h_z.n (39 + 4 * t_z) _ (by omega) (by omega) q5_z, h_z.k (40 + 4 * t_z) _ (by omega) (by omega) q6_z, h_z.n (40 + 4 * t_z) _ (by omega) (by omega) q7_z⟩⟩
  · obtain ⟨q0, q1_z, q2_z, q3_z, q4_z, q5_z, q6_z, q7_z⟩ := fin_gr t_z ht
    have e_z : b + 16 + 42 + 3 * t_z = b + 1 + (57 + 3 * t_z) := by omega
    exact ⟨h_z.r 17 _ rfl (by decide) q0 (by omega) (by omega), ⟨h_z.k (57 + 3 * t_z) _ e_z (by omega) q1_z, h_z.r (57 + 3 * t_z) _ e_z (by omega) q6_z (by omega) (by omega), h_z.r (57 + 3 * t_z) _ e_z (by omega) q7_z (by omega) (by omega), h_z.k (58 + 3 * t_z) _ (by omega) (by omega) q2_z, h_z.n (58 + 3 * t_z) _ (by omega) (by omega) q3_z, h_z.k (59 + 3 * t_z) _ (by omega) (by omega) q4_z, h_z.n (59 + 3 * t_z) _ (by omega) (by omega) q5_z⟩⟩
theorem Cl.ed (h_z : Cl b M) (hf : gI M (b + 193 + 1) = f0I) : EdRow G M (b + 10) f0I := by
  refine ⟨h_z.shSa, fun x_z x0_z x1_z => Or.inl ⟨f0_pg x0_z x1_z, h_z.z 10 _ rfl (by decide) (by decide +kernel)⟩, fun i_z i0_z i1_z => ?_, fun i_z i0_z i1_z => ?_, ?_, ?_, ?_⟩
  · have z_z := h_z.i0 (k_z := i_z) 11 (b + 10 + 2) rfl (by decide) (by decide +kernel)
    refine ⟨Or.inl z_z, ?_, fun j_z j0 j1 => ?_⟩
    · rw [z_z]
      exact f0_mid (by omega) (by omega)
    · have z2 := h_z.i0 (k_z := 4 * i_z + j_z) 12 (b + 10 + 3) rfl (by decide) (by decide +kernel)
      rw [z2]
      exact ⟨(f0_mid (by omega) (by omega)).symm, by decide⟩
  · have z_z := h_z.i0 (k_z := i_z) 13 (b + 10 + 4) rfl (by decide) (by decide +kernel)
    rw [z_z]
    exact ⟨(f0_mid (by omega) (by omega)).symm, Or.inl rfl⟩
  · have z_z := h_z.i (k_z := 4) (v_z := 12) 9 (b + 10) rfl (by decide) (by decide +kernel)
    rw [z_z]
    exact ⟨rfl, by decide, by decide⟩
  · have z_z := h_z.i (k_z := 5) (v_z := 12) 9 (b + 10) rfl (by decide) (by decide +kernel)
    rw [z_z]
    exact ⟨rfl, by decide, by decide⟩
  · have z_z := h_z.i (k_z := 6) (v_z := 120) 9 (b + 10) rfl (by decide) (by decide +kernel)
    rw [z_z]
    exact ⟨rfl, by decide, by decide⟩
/-- the first invariant -/
theorem inv_first {L_z : Nat} {xs : Nat → Int32} {wd bs : Nat → Nat} (hi_z : Ini0 G M0 B L_z xs wd bs) (hnz : ∀ i_z : Nat, i_z < 23 → G.2 (3 + i_z) ≠ 0) (hb_z : G.1 = b) (lo_z : ∀ a_z, a_z ≤ b → gK M a_z = gK M0 a_z ∧ gN M a_z = gN M0 a_z ∧ gI M a_z = gI M0 a_z ∧ gR M a_z = gR M0 a_z) (h_z : Cl b M) (hz : gz M = b + 221) (sm_z : ShM M (b + 193)) (hf : gI M (b + 193 + 1) = f0I) (hm_z : ∀ k_z, gI M (b + 193) k_z = 0) : Inv G M b := by
  obtain ⟨i1_z, i2_z, i3_z, i4_z, i5_z, i6_z, i7_z, i8_z, i9_z⟩ := hi_z
  have le : ∀ a_z, gK M0 a_z ≠ 0 → a_z ≤ b := fun a_z ha_z => by
    by_cases c_z : a_z ≤ b
    · exact c_z
    · exact absurd (i9_z a_z (by omega)) ha_z
  have g0 : G.2 0 ≤ b := le _ (by rw [i4_z.1]; decide)
  have g1 : G.2 1 ≤ b := le _ (by rw [i5_z.1]; decide)
  have g3_z : ∀ i_z : Nat, i_z < 23 → G.2 (3 + i_z) ≤ b := fun i_z hi_z => le _ (by rw [(i6_z i_z hi_z).1]; decide)
  have gw : ∀ i_z : Nat, i_z < 23 → wd i_z ≤ b := fun i_z hi_z => le _ (by rw [(i7_z i_z hi_z).1]; decide)
  have gb : ∀ i_z : Nat, i_z < 23 → bs i_z ≤ b := fun i_z hi_z => le _ (by rw [(i8_z i_z hi_z).1]; decide)
  have hop : OpF G M := by
    unfold OpF
    obtain ⟨e1_z, e2_z, e3_z, e4_z⟩ := lo_z _ g1
    rw [e1_z, e2_z, e3_z]
    refine ⟨i5_z, fun i_z hi_z => ?_⟩
    obtain ⟨d1_z, d2_z, d3_z, d4_z⟩ := lo_z _ (g3_z i_z hi_z)
    rw [d1_z, d3_z]
    exact ⟨hnz i_z hi_z, (i6_z i_z hi_z).1, (i6_z i_z hi_z).2.2⟩
  have hwd : WdF G M := by
    unfold WdF
    obtain ⟨e1_z, e2_z, e3_z, e4_z⟩ := lo_z _ g0
    rw [e1_z, e2_z, e4_z]
    refine ⟨i4_z, fun i_z hi_z => ?_⟩
    obtain ⟨d1_z, d2_z, d3_z, d4_z⟩ := lo_z _ (g3_z i_z hi_z)
    obtain ⟨c1_z, c2_z, c3_z, c4_z⟩ := lo_z _ (gw i_z hi_z)
    obtain ⟨b1, b2, b3, b4⟩ := lo_z _ (gb i_z hi_z)
    refine ⟨wd i_z, bs i_z, by rw [hb_z]; exact gw i_z hi_z, by rw [hb_z]; exact gb i_z hi_z, ?_, ?_, ?_, ?_, ?_, ?_, fun k_z hk => ?_⟩
    · rw [d4_z]
      exact (i6_z i_z hi_z).2.1
    · rw [c1_z]
      exact (i7_z i_z hi_z).1
    · rw [c3_z]
      exact (i7_z i_z hi_z).2.1
    · rw [c4_z]
      exact (i7_z i_z hi_z).2.2
    · rw [b1]
      exact (i8_z i_z hi_z).1
    · rw [b2]
      exact (i8_z i_z hi_z).2.1
    · rw [b3]
      exact (i8_z i_z hi_z).2.2 k_z hk
  have hS_z : ClS G M b := ⟨h_z.shX, h_z.shRd, h_z.shSa, fun j_z hj => h_z.shSv hj, h_z.shMa, hop, hwd, fun i_z hi_z => ?_, hb_z, by omega⟩
  · refine ⟨hS_z, 0, f0I, fun _ => f0I, 0, fun _ => 0, ⟨h_z.i0 (k_z := 4) 0 _ rfl (by decide) (by decide +kernel), by decide, fun i_z hi_z => ⟨i_z, hi_z, ?_⟩, fun i_z i' q_z q' e_z => ?_, h_z.ed hf, fun i_z hi_z => absurd hi_z (by omega), fun x_z x0_z x1_z => Or.inl (h_z.z 10 _ rfl (by decide) (by decide +kernel)), fun i_z hi_z => absurd hi_z (by omega)⟩, ⟨h_z.i0 (k_z := 5) 1 _ rfl (by decide) (by decide +kernel), by decide, by decide, fun i_z i0_z i1_z => by omega⟩, ⟨sm_z, hm_z 2, hf, fun i_z hi_z => absurd hi_z (by omega), hm_z 4, fun i_z i0_z i1_z => by omega⟩, ⟨fun k_z => Or.inl (h_z.i0 24 _ rfl (by decide) (by decide +kernel)), Or.inl ⟨h_z.i0 15 _ rfl (by decide) (by decide +kernel), hm_z 45⟩⟩⟩
    · have q_z := (fin_sa i_z hi_z).1
      exact h_z.r 14 _ rfl (by decide) q_z (by omega) (by unfold svA; omega)
    · have q1_z := h_z.r 14 (b + 15) rfl (by decide) (fin_sa i_z q_z).1 (by omega) rfl
      have q2_z := h_z.r 14 (b + 15) rfl (by decide) (fin_sa i' q').1 (by omega) rfl
      omega
  · by_cases c0_z : i_z = 0
    · rw [c0_z]
      exact g0
    · by_cases c1_z : i_z = 1
      · rw [c1_z]
        exact g1
      · have := g3_z (i_z - 3) (by omega)
        rw [show 3 + (i_z - 3) = i_z from by omega] at this
        exact this
/-- the model's constructor, its loop_z -/
theorem C_Mloop {m_z : Nat} (km : gK M m_z = 11) (rm0_z : gR M m_z 0 = m_z + 1) (k1_z : gK M (m_z + 1) = 100) (n1_z : gN M (m_z + 1) = 1216) (h0 : gI M (m_z + 1) = fmI 0) (hQ : ∀ M1_z, Ex (fun r_z => r_z = m_z + 1) M M1_z → gI M1_z (m_z + 1) = f0I → Q none M1_z) : At G 168 236 [a_r m_z, a_i 0] [] M Q := by
  have loop_z : ∀ (d_z k_z : Nat), k_z + d_z = 7 → ∀ M1_z, Ex (fun r_z => r_z = m_z + 1) M M1_z → gI M1_z (m_z + 1) = fmI (k_z : Int) → At G 168 236 [a_r m_z, a_i (k_z : Int)] [] M1_z Q := by
    intro d_z
    induction d_z with
    | zero =>
      intro k_z hk M1_z o e_z
      have ek : k_z = 7 := by omega
      subst ek
      obtain ⟨o1, o2, o3_z, o4_z, o5_z, o6⟩ := id o
      have g_z := hQ (uI (uI (uI M1_z (m_z + 1) 1213 12) (m_z + 1) 1214 12) (m_z + 1) 1215 120) (((o.uI _ _ rfl).uI _ _ rfl).uI _ _ rfl) (by rw [rI_row, rI_row, rI_row, e_z]; rfl)
      have km1 : gK M1_z m_z = 11 := by rw [o1]; exact km
      have k11 : gK M1_z (m_z + 1) = 100 := by rw [o1]; exact k1_z
      have n11 : gN M1_z (m_z + 1) = 1216 := by rw [o2]; exact n1_z
      have r11 : gR M1_z m_z 0 = m_z + 1 := by rw [o3_z]; exact rm0_z
      rw [B_168_236]
      refine ⟨fun _ => ?_, fun w_z => absurd (by decide) w_z⟩
      simp (disch := omega) only [km1, k11, n11, r11, B_168_261, B_168_281, inI, inL, isT, kInt, kByt, true_and, and_true, an_t, im_t, im_f, or_true, true_or, true_imp_iff, false_imp_iff, not_true_eq_false, not_false_eq_true, gK_uI, gK_uL, gK_uR, gK_uCI, gK_uCL, gN_uI, gN_uL, gN_uR, gN_uCI, gN_uCL, gR_uI, gR_uL, gR_uCI, gR_uCL, gI_uL, gI_uR, gI_uCL, gL_uI, gL_uR, gL_uCI, gz_uI, gz_uL, gz_uR, gz_uCI, gz_uCL, gs_uI, gs_uL, gs_uR, gs_uCI, gs_uCL, rI_at, rL_at, rR_at, rI_ne, rL_ne, rR_ne, rI_nk, rL_nk, rR_nk, rI_eq, rL_eq, rR_eq, Option.toList_some, Option.toList_none, List.cons_append, List.nil_append, List.append_nil, zc_eq, zc_lt, zc_le, zc_ge, zc_gt]
      all_goals exact g_z
    | succ d_z ih_z =>
      intro k_z hk M1_z o e_z
      obtain ⟨o1, o2, o3_z, o4_z, o5_z, o6⟩ := id o
      have g_z := ih_z (k_z + 1) (by omega) (uI M1_z (m_z + 1) (161 * (k_z : Int)) (-1)) (o.uI _ _ rfl) (by
        rw [rI_row, e_z, fmI_step (by omega)]
        rfl)
      rw [show ((k_z + 1 : Nat) : Int) = (k_z : Int) + 1 from by omega] at g_z
      have km1 : gK M1_z m_z = 11 := by rw [o1]; exact km
      have k11 : gK M1_z (m_z + 1) = 100 := by rw [o1]; exact k1_z
      have n11 : gN M1_z (m_z + 1) = 1216 := by rw [o2]; exact n1_z
      have r11 : gR M1_z m_z 0 = m_z + 1 := by rw [o3_z]; exact rm0_z
      have z0 : 0 + 161 * (k_z : Int) = 161 * (k_z : Int) := by omega
      rw [B_168_236]
      simp (disch := omega) only [km1, k11, n11, r11, z0, inI, inL, isT, kInt, kByt, true_and, and_true, an_t, im_t, im_f, or_true, true_or, true_imp_iff, false_imp_iff, not_true_eq_false, not_false_eq_true, gK_uI, gK_uL, gK_uR, gK_uCI, gK_uCL, gN_uI, gN_uL, gN_uR, gN_uCI, gN_uCL, gR_uI, gR_uL, gR_uCI, gR_uCL, gI_uL, gI_uR, gI_uCL, gL_uI, gL_uR, gL_uCI, gz_uI, gz_uL, gz_uR, gz_uCI, gz_uCL, gs_uI, gs_uL, gs_uR, gs_uCI, gs_uCL, rI_at, rL_at, rR_at, rI_ne, rL_ne, rR_ne, rI_nk, rL_nk, rR_nk, rI_eq, rL_eq, rR_eq, Option.toList_some, Option.toList_none, List.cons_append, List.nil_append, List.append_nil, zc_eq, zc_lt, zc_le, zc_ge, zc_gt]
      all_goals exact g_z
  exact loop_z 7 0 rfl M (Ex.refl _ _) h0
theorem al_shM {r_z : Nat} {M1_z : Mem} (a_z : Al r_z [(0, 100, 1216), (1, 100, 7296), (3, 100, 160), (8, 100, 9), (13, 100, 160), (17, 100, 20), (18, 100, 800), (22, 100, 28), (23, 100, 28), (24, 100, 28), (28, 100, 4848), (29, 100, 4848), (30, 100, 4848), (31, 100, 202), (32, 100, 202), (34, 100, 360), (37, 100, 5), (38, 100, 5), (39, 100, 5), (40, 100, 80), (41, 100, 80), (42, 100, 5), (43, 100, 15), (44, 100, 15), (51, 100, 600), (52, 100, 12), (53, 100, 4), (54, 100, 4)] M M1_z) (hk : gK M1_z r_z = 11) : ShM M1_z r_z := by
  obtain ⟨-, -, -, -, -, a5⟩ := a_z
  have q0 := a5 0 _ rfl
  have q1_z := a5 1 _ rfl
  have q2_z := a5 2 _ rfl
  have q3_z := a5 3 _ rfl
  have q4_z := a5 4 _ rfl
  have q5_z := a5 5 _ rfl
  have q6_z := a5 6 _ rfl
  have q7_z := a5 7 _ rfl
  have q8_z := a5 8 _ rfl
  have q9_z := a5 9 _ rfl
  have q10_z := a5 10 _ rfl
  have q11_z := a5 11 _ rfl
  have q12_z := a5 12 _ rfl
  have q13_z := a5 13 _ rfl
  have q14_z := a5 14 _ rfl
  have q15_z := a5 15 _ rfl
  have q16_z := a5 16 _ rfl
  have q17_z := a5 17 _ rfl
  have q18_z := a5 18 _ rfl
  have q19 := a5 19 _ rfl
  have q20 := a5 20 _ rfl
  have q21 := a5 21 _ rfl
  have q22 := a5 22 _ rfl
  have q23 := a5 23 _ rfl
  have q24 := a5 24 _ rfl
  have q25 := a5 25 _ rfl
  have q26 := a5 26 _ rfl
  have q27 := a5 27 _ rfl
  exact ⟨hk, q0.2.2.2.2, q0.1, q0.2.1, q1_z.2.2.2.2, q1_z.1, q1_z.2.1, q2_z.2.2.2.2, q2_z.1, q2_z.2.1, q3_z.2.2.2.2, q3_z.1, q3_z.2.1, q4_z.2.2.2.2, q4_z.1, q4_z.2.1, q5_z.2.2.2.2, q5_z.1, q5_z.2.1, q6_z.2.2.2.2, q6_z.1, q6_z.2.1, q7_z.2.2.2.2, q7_z.1, q7_z.2.1, q8_z.2.2.2.2, q8_z.1, q8_z.2.1, q9_z.2.2.2.2, q9_z.1, q9_z.2.1, q10_z.2.2.2.2, q10_z.1, q10_z.2.1, q11_z.2.2.2.2, q11_z.1, q11_z.2.1, q12_z.2.2.2.2, q12_z.1, q12_z.2.1, q13_z.2.2.2.2, q13_z.1, q13_z.2.1, q14_z.2.2.2.2, q14_z.1, q14_z.2.1, q15_z.2.2.2.2, q15_z.1, q15_z.2.1, q16_z.2.2.2.2, q16_z.1, q16_z.2.1, q17_z.2.2.2.2, q17_z.1, q17_z.2.1, q18_z.2.2.2.2, q18_z.1, q18_z.2.1, q19.2.2.2.2, q19.1, q19.2.1, q20.2.2.2.2, q20.1, q20.2.1, q21.2.2.2.2, q21.1, q21.2.1, q22.2.2.2.2, q22.1, q22.2.1, q23.2.2.2.2, q23.1, q23.2.1, q24.2.2.2.2, q24.1, q24.2.1, q25.2.2.2.2, q25.1, q25.2.1, q26.2.2.2.2, q26.1, q26.2.1, q27.2.2.2.2, q27.1, q27.2.1⟩
theorem law_pure {L_z : Nat} {xs : Nat → Int32} {wd bs : Nat → Nat} (hL : L_z ≤ 3072) (hnz : ∀ i_z : Nat, i_z < 23 → G.2 (3 + i_z) ≠ 0) (hi_z : Ini0 G M0 B L_z xs wd bs) : Call G J_L_law [a_r B] M0 (fun r_z _ => r_z = some (a_i 1)) := by
  obtain ⟨i1_z, i2_z, ⟨i3_z, i4_z, i5_z, i6_z⟩, -⟩ := id hi_z
  have he : Hp (G.1 + 1) [] 0 M0 M0 := ⟨by rw [i1_z]; rfl, i2_z, fun _ _ => ⟨rfl, rfl, rfl, rfl⟩, fun i_z hi_z => absurd hi_z (Nat.not_lt_zero i_z)⟩
  have h0 : Hp (G.1 + 1) hl0 5 M0 (uN M0 1 0 5) := he.new.cast rfl rfl
  rw [E_L_law, B_0_0]
  refine ⟨⟨by omega, by omega⟩, nK_at rfl, ?_⟩
  rw [i1_z]
  generalize uN M0 1 0 5 = M1_z at h0 ⊢
  refine T_X h0 rfl (fun N_z h1 => ?_)
  simp only [Option.toList_some, Option.toList_none, List.cons_append, List.nil_append, List.append_nil]
  rw [B_0_7]
  have h1f : Hp (G.1 + 1) finL 5945 M0 N_z := h1.cast (show saL 6 = finL from rfl) rfl
  have ez : gz N_z + 1 = G.1 + 1 + 192 := h1f.sz fin_len
  refine ⟨h1.rm rfl (by decide +kernel) (by decide), nK_at rfl, ?_⟩
  rw [ez]
  refine C_M0 (r := G.1 + 1 + 192) ez (by omega) (nK_at ez.symm) (by omega) (by rw [gs_uN, h1.2.1]; decide) (fun M2_z al_z => ?_)
  have zM : ∀ k_z, gI M2_z (G.1 + 1 + 192) k_z = 0 := fun k_z => by
    rw [(al_z.2.2.2.1 _ (Nat.le_refl _)).2.2.1]
    exact nI_at ez.symm
  have kM : gK M2_z (G.1 + 1 + 192) = 11 := by
    rw [(al_z.2.2.2.1 _ (Nat.le_refl _)).1]
    exact nK_at ez.symm
  have sm2 := al_shM al_z kM
  have gzM : gz M2_z = G.1 + 1 + 192 + 28 := al_z.2.1
  have gsM : gs M2_z = 5945 + 55 + 25883 := by
    rw [al_z.2.2.1, gs_uN, h1.2.1]
    decide
  have lowc : ∀ a_z, a_z < G.1 + 1 + 192 → gK M2_z a_z = gK N_z a_z ∧ gN M2_z a_z = gN N_z a_z ∧ gI M2_z a_z = gI N_z a_z ∧ gR M2_z a_z = gR N_z a_z := fun a_z ha_z => by
    obtain ⟨a1_z, a2, a3, a4⟩ := al_z.2.2.2.1 a_z (by omega)
    have na : a_z ≠ gz N_z + 1 := by omega
    exact ⟨a1_z.trans (nK_ne na), a2.trans (nN_ne na), a3.trans (nI_ne na), (a4 (by omega)).trans (nR_ne na)⟩
  have z1 : gI M2_z (G.1 + 1 + 192 + 1) = fmI 0 := by
    funext i_z
    have q_z := (al_z.2.2.2.2.2 0 _ rfl).2.2.1 i_z
    unfold fmI
    rw [if_neg (by omega)]
    exact q_z
  refine C_Mloop (m_z := G.1 + 1 + 192) sm2.u.1 sm2.u.2.1 sm2.u.2.2.1 sm2.u.2.2.2.1 z1 (fun M3_z o hf => ?_)
  simp only [Option.toList_some, Option.toList_none, List.cons_append, List.nil_append, List.append_nil]
  rw [B_0_15]
  obtain ⟨o1, o2, o3_z, o4_z, o5_z, o6⟩ := id o
  have lo3 : ∀ a_z, a_z < G.1 + 1 + 192 → gK M3_z a_z = gK N_z a_z ∧ gN M3_z a_z = gN N_z a_z ∧ gI M3_z a_z = gI N_z a_z ∧ gR M3_z a_z = gR N_z a_z := fun a_z ha_z => by
    obtain ⟨a1_z, a2, a3, a4⟩ := lowc a_z ha_z
    exact ⟨by rw [o1]; exact a1_z, by rw [o2]; exact a2, by rw [(o6 a_z (by omega)).1]; exact a3, by rw [o3_z]; exact a4⟩
  have lo0 : ∀ a_z, a_z ≤ G.1 → gK M3_z a_z = gK M0 a_z ∧ gN M3_z a_z = gN M0 a_z ∧ gI M3_z a_z = gI M0 a_z ∧ gR M3_z a_z = gR M0 a_z := fun a_z ha_z => by
    obtain ⟨a1_z, a2, a3, a4⟩ := lo3 a_z (by omega)
    obtain ⟨b1, b2, b3, b4⟩ := h1.2.2.1 a_z (by omega)
    exact ⟨a1_z.trans b1, a2.trans b2, a3.trans b3, a4.trans b4⟩
  have cl_z : Cl G.1 M3_z := fun i_z hi_z => by
    obtain ⟨a1_z, a2, a3, a4⟩ := lo3 (G.1 + 1 + i_z) (by omega)
    obtain ⟨b1, b2, b3, b4⟩ := h1f.2.2.2 i_z (by rw [fin_len]; exact hi_z)
    rw [a1_z, a2, a3, a4]
    exact ⟨b1, b2, b3, b4⟩
  have gz3 : gz M3_z = G.1 + 221 := by omega
  have gs3 : gs M3_z = 31883 := by omega
  have sm3 : ShM M3_z (G.1 + 193) := Ex.sh o sm2
  have iv_z : Inv G M3_z G.1 := inv_first hi_z hnz rfl lo0 cl_z gz3 sm3 hf (fun k_z => by
    show gI M3_z (G.1 + 1 + 192) k_z = 0
    rw [(o6 _ (by omega)).1]
    exact zM k_z)
  have ro : RoI B (G.1 + 193) (L_z : Int) (gI M0 B) M3_z := by
    obtain ⟨a1_z, a2, a3, a4⟩ := lo0 B i3_z
    exact ⟨a1_z.trans i4_z, a2.trans i5_z, a3, by omega, sm3.u.1, by omega⟩
  exact law_loop (n := (L_z : Int)) (by omega) (by omega) 512 M3_z 0 (by decide) (by decide) (by omega) iv_z ro (by omega) (by rw [gs3]; decide)
end PU
