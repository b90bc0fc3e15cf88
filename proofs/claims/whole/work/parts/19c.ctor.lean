/-! THE PURE PART, part 19: constructors. Own work (partly written by a program of its own). -/
def szl : List (Int × Nat × Int) → Nat
  | [] => 0
  | p_z :: l => p_z.2.2.toNat + szl l
theorem szl_app (x_z : Int × Nat × Int) : ∀ l : List (Int × Nat × Int), szl (l ++ [x_z]) = szl l + x_z.2.2.toNat
  | [] => by
    show x_z.2.2.toNat + 0 = 0 + x_z.2.2.toNat
    omega
  | p_z :: l => by
    have := szl_app x_z l
    show p_z.2.2.toNat + szl (l ++ [x_z]) = p_z.2.2.toNat + szl l + x_z.2.2.toNat
    omega
/-- new rows behind the object r, which was the last: field, kind, length -/
def Al (r : Nat) (l : List (Int × Nat × Int)) (M0 M : Mem) : Prop :=
  gz M0 = r ∧ gz M = r + l.length ∧ gs M = gs M0 + szl l ∧ (∀ a_z, a_z ≤ r → gK M a_z = gK M0 a_z ∧ gN M a_z = gN M0 a_z ∧ gI M a_z = gI M0 a_z ∧ (a_z ≠ r → gR M a_z = gR M0 a_z)) ∧ (∀ f_z, (∀ p_z, p_z ∈ l → p_z.1 ≠ f_z) → gR M r f_z = gR M0 r f_z) ∧
  ∀ (i_z : Nat) (p_z : Int × Nat × Int), l[i_z]? = some p_z → gK M (r + 1 + i_z) = p_z.2.1 ∧ gN M (r + 1 + i_z) = p_z.2.2 ∧ (∀ k_z, gI M (r + 1 + i_z) k_z = 0) ∧ (∀ k_z, gR M (r + 1 + i_z) k_z = 0) ∧ gR M r p_z.1 = r + 1 + i_z
section CO
variable {G : Env0} {Q : Option AV → Mem → Prop} {M M0 : Mem} {r : Nat} {l : List (Int × Nat × Int)}
theorem Al.nil (h_z : gz M = r) : Al r [] M M := ⟨h_z, h_z, rfl, fun _ _ => ⟨rfl, rfl, rfl, fun _ => rfl⟩, fun _ _ => rfl, fun i_z p_z q_z => by simp at q_z⟩
theorem Al.step {f_z n_z : Int} {k_z : Nat} (h_z : Al r l M0 M) (hf : ∀ p_z, p_z ∈ l → p_z.1 ≠ f_z) : Al r (l ++ [(f_z, k_z, n_z)]) M0 (uR (uN M k_z n_z (Int.toNat n_z)) r f_z (gz M + 1)) := by
  obtain ⟨h0, h1, h2, h3, h4, h5⟩ := h_z
  have ne : ∀ a_z, a_z ≤ r + l.length → a_z ≠ gz M + 1 := fun a_z ha_z => by omega
  refine ⟨h0, ?_, ?_, fun a_z ha_z => ?_, fun g_z hg => ?_, fun i_z p_z hp => ?_⟩
  · show gz M + 1 = _
    rw [List.length_append, h1]
    rfl
  · show gs M + n_z.toNat = _
    rw [szl_app, h2]
    exact Nat.add_assoc ..
  · obtain ⟨a1_z, a2, a3, a4⟩ := h3 a_z ha_z
    have na := ne a_z (by omega)
    have e1_z : gK (uN M k_z n_z (Int.toNat n_z)) a_z = gK M a_z := nK_ne na
    have e2_z : gN (uN M k_z n_z (Int.toNat n_z)) a_z = gN M a_z := nN_ne na
    have e3_z : gI (uN M k_z n_z (Int.toNat n_z)) a_z = gI M a_z := nI_ne na
    refine ⟨e1_z.trans a1_z, e2_z.trans a2, e3_z.trans a3, fun q_z => ?_⟩
    rw [rR_ne q_z, nR_ne na]
    exact a4 q_z
  · have gf : f_z ≠ g_z := hg (f_z, k_z, n_z) (by simp)
    rw [rR_nk (fun q_z => gf q_z.symm), nR_ne (ne r (by omega))]
    exact h4 g_z (fun p_z hp => hg p_z (by simp [hp]))
  · by_cases c_z : i_z < l.length
    · rw [List.getElem?_append_left c_z] at hp
      obtain ⟨b1, b2, b3, b4, b5⟩ := h5 i_z p_z hp
      have n1_z := ne (r + 1 + i_z) (by omega)
      have pm : p_z ∈ l := List.mem_of_getElem? hp
      have e1_z : gK (uN M k_z n_z (Int.toNat n_z)) (r + 1 + i_z) = gK M (r + 1 + i_z) := nK_ne n1_z
      have e2_z : gN (uN M k_z n_z (Int.toNat n_z)) (r + 1 + i_z) = gN M (r + 1 + i_z) := nN_ne n1_z
      refine ⟨e1_z.trans b1, e2_z.trans b2, fun k' => ?_, fun k' => ?_, ?_⟩
      · show gI (uN M k_z n_z (Int.toNat n_z)) _ _ = 0
        rw [nI_ne n1_z]
        exact b3 k'
      · rw [rR_ne (by omega), nR_ne n1_z]
        exact b4 k'
      · rw [rR_nk (hf p_z pm), nR_ne (ne r (by omega))]
        exact b5
    · rw [List.getElem?_append_right (by omega)] at hp
      have i0_z : i_z = l.length := by
        by_cases c2_z : i_z - l.length = 0
        · omega
        · obtain ⟨j_z, hj⟩ : ∃ j_z, i_z - l.length = j_z + 1 := ⟨i_z - l.length - 1, by omega⟩
          rw [hj] at hp
          simp at hp
      rw [i0_z, Nat.sub_self] at hp
      have e_z : (f_z, k_z, n_z) = p_z := by simpa using hp
      subst e_z
      have e1_z : r + 1 + i_z = gz M + 1 := by omega
      rw [e1_z]
      have z1 : gK (uN M k_z n_z (Int.toNat n_z)) (gz M + 1) = k_z := nK_at rfl
      have z2 : gN (uN M k_z n_z (Int.toNat n_z)) (gz M + 1) = n_z := nN_at rfl
      refine ⟨z1, z2, fun k' => ?_, fun k' => ?_, rR_at⟩
      · show gI (uN M k_z n_z (Int.toNat n_z)) _ _ = 0
        exact nI_at rfl
      · rw [rR_ne (by omega)]
        exact nR_at rfl
theorem Al.go {f_z n_z : Int} {k_z : Nat} {P_z : Mem → Prop} (h_z : Al r l M0 M) (hf : ∀ p_z, p_z ∈ l → p_z.1 ≠ f_z) (hP : ∀ N_z, Al r (l ++ [(f_z, k_z, n_z)]) M0 N_z → P_z N_z) : P_z (uR (uN M k_z n_z (Int.toNat n_z)) r f_z (gz M + 1)) := hP _ (h_z.step hf)
theorem Al.kd {c_z ns kk : Nat} {n_z : Int} (h_z : Al r l M0 M) (hk : gK M0 r = kk) : gK (uN M c_z n_z ns) r = kk := by
  obtain ⟨h0, h1, h2, h3, h4, h5⟩ := h_z
  rw [nK_ne (by omega), (h3 r (Nat.le_refl _)).1]
  exact hk
theorem Al.kd0 {kk : Nat} (h_z : Al r l M0 M) (hk : gK M0 r = kk) : gK M r = kk := by rw [(h_z.2.2.2.1 r (Nat.le_refl _)).1]; exact hk
theorem Al.rm {n_z S_z : Nat} (h_z : Al r l M0 M) (rm1 : r + 40 ≤ G.1 + 600000) (rm2 : gs M0 + S_z ≤ 7302249) (hl : l.length ≤ 39) (hs : szl l + n_z ≤ S_z) : roomOk G M n_z := by
  obtain ⟨h0, h1, h2, h3, h4, h5⟩ := h_z
  exact ⟨by omega, by omega⟩
theorem C_St (hz : gz M = r) (h0 : ¬ r = 0) (hk : gK M r = 3) (rm1 : r + 40 ≤ G.1 + 600000) (rm2 : gs M + 18 ≤ 7302249) (hQ : ∀ M1_z, Al r [(0, 150, 9), (1, 100, 9)] M M1_z → Q none M1_z) : Call G J_St_init [a_r r] M Q := by
  have a0_z : Al r [] M M := Al.nil hz
  rw [E_St_init]
  rw [B_3_0]
  refine ⟨h0, ⟨by decide, by decide⟩, a0_z.rm rm1 rm2 (by decide) (by decide), a0_z.kd hk, ?_⟩
  refine Al.go (P_z := fun N_z => At G 3 13 [a_r r] [] N_z Q) a0_z (by decide) (fun N1 a1_z => ?_)
  have a1_z : Al r [(0, 150, 9)] M N1 := a1_z
  rw [B_3_13]
  refine ⟨⟨by decide, by decide⟩, a1_z.rm rm1 rm2 (by decide) (by decide), a1_z.kd hk, ?_⟩
  refine Al.go (P_z := fun N_z => At G 3 21 [a_r r] [] N_z Q) a1_z (by decide) (fun N2 a2 => ?_)
  have a2 : Al r [(0, 150, 9), (1, 100, 9)] M N2 := a2
  rw [B_3_21]
  exact hQ _ a2
theorem C_Pa (hz : gz M = r) (h0 : ¬ r = 0) (hk : gK M r = 6) (rm1 : r + 40 ≤ G.1 + 600000) (rm2 : gs M + 2802 ≤ 7302249) (hQ : ∀ M1_z, Al r [(0, 100, 800), (1, 100, 800), (2, 102, 800), (3, 100, 201), (4, 102, 201)] M M1_z → Q none M1_z) : Call G J_Pa_init [a_r r] M Q := by
  have a0_z : Al r [] M M := Al.nil hz
  rw [E_Pa_init]
  rw [B_7_0]
  refine ⟨h0, ⟨by decide, by decide⟩, a0_z.rm rm1 rm2 (by decide) (by decide), a0_z.kd hk, ?_⟩
  refine Al.go (P_z := fun N_z => At G 7 13 [a_r r] [] N_z Q) a0_z (by decide) (fun N1 a1_z => ?_)
  have a1_z : Al r [(0, 100, 800)] M N1 := a1_z
  rw [B_7_13]
  refine ⟨⟨by decide, by decide⟩, a1_z.rm rm1 rm2 (by decide) (by decide), a1_z.kd hk, ?_⟩
  refine Al.go (P_z := fun N_z => At G 7 22 [a_r r] [] N_z Q) a1_z (by decide) (fun N2 a2 => ?_)
  have a2 : Al r [(0, 100, 800), (1, 100, 800)] M N2 := a2
  rw [B_7_22]
  refine ⟨⟨by decide, by decide⟩, a2.rm rm1 rm2 (by decide) (by decide), a2.kd hk, ?_⟩
  refine Al.go (P_z := fun N_z => At G 7 31 [a_r r] [] N_z Q) a2 (by decide) (fun N3 a3 => ?_)
  have a3 : Al r [(0, 100, 800), (1, 100, 800), (2, 102, 800)] M N3 := a3
  rw [B_7_31]
  refine ⟨⟨by decide, by decide⟩, a3.rm rm1 rm2 (by decide) (by decide), a3.kd hk, ?_⟩
  refine Al.go (P_z := fun N_z => At G 7 40 [a_r r] [] N_z Q) a3 (by decide) (fun N4_z a4 => ?_)
  have a4 : Al r [(0, 100, 800), (1, 100, 800), (2, 102, 800), (3, 100, 201)] M N4_z := a4
  rw [B_7_40]
  refine ⟨⟨by decide, by decide⟩, a4.rm rm1 rm2 (by decide) (by decide), a4.kd hk, ?_⟩
  refine Al.go (P_z := fun N_z => At G 7 49 [a_r r] [] N_z Q) a4 (by decide) (fun N5 a5 => ?_)
  have a5 : Al r [(0, 100, 800), (1, 100, 800), (2, 102, 800), (3, 100, 201), (4, 102, 201)] M N5 := a5
  rw [B_7_49]
  exact hQ _ a5
theorem C_Fr (hz : gz M = r) (h0 : ¬ r = 0) (hk : gK M r = 8) (rm1 : r + 40 ≤ G.1 + 600000) (rm2 : gs M + 22 ≤ 7302249) (hQ : ∀ M1_z, Al r [(0, 101, 16), (1, 100, 3), (2, 100, 3)] M M1_z → Q none M1_z) : Call G J_Fr_init [a_r r] M Q := by
  have a0_z : Al r [] M M := Al.nil hz
  rw [E_Fr_init]
  rw [B_8_0]
  refine ⟨h0, ⟨by decide, by decide⟩, a0_z.rm rm1 rm2 (by decide) (by decide), a0_z.kd hk, ?_⟩
  refine Al.go (P_z := fun N_z => At G 8 12 [a_r r] [] N_z Q) a0_z (by decide) (fun N1 a1_z => ?_)
  have a1_z : Al r [(0, 101, 16)] M N1 := a1_z
  rw [B_8_12]
  refine ⟨⟨by decide, by decide⟩, a1_z.rm rm1 rm2 (by decide) (by decide), a1_z.kd hk, ?_⟩
  refine Al.go (P_z := fun N_z => At G 8 19 [a_r r] [] N_z Q) a1_z (by decide) (fun N2 a2 => ?_)
  have a2 : Al r [(0, 101, 16), (1, 100, 3)] M N2 := a2
  rw [B_8_19]
  refine ⟨⟨by decide, by decide⟩, a2.rm rm1 rm2 (by decide) (by decide), a2.kd hk, ?_⟩
  refine Al.go (P_z := fun N_z => At G 8 26 [a_r r] [] N_z Q) a2 (by decide) (fun N3 a3 => ?_)
  have a3 : Al r [(0, 101, 16), (1, 100, 3), (2, 100, 3)] M N3 := a3
  rw [B_8_26]
  exact hQ _ a3
theorem C_Gr (hz : gz M = r) (h0 : ¬ r = 0) (hk : gK M r = 9) (rm1 : r + 40 ≤ G.1 + 600000) (rm2 : gs M + 12 ≤ 7302249) (hQ : ∀ M1_z, Al r [(0, 101, 6), (1, 100, 6)] M M1_z → Q none M1_z) : Call G J_Gr_init [a_r r] M Q := by
  have a0_z : Al r [] M M := Al.nil hz
  rw [E_Gr_init]
  rw [B_9_0]
  refine ⟨h0, ⟨by decide, by decide⟩, a0_z.rm rm1 rm2 (by decide) (by decide), a0_z.kd hk, ?_⟩
  refine Al.go (P_z := fun N_z => At G 9 12 [a_r r] [] N_z Q) a0_z (by decide) (fun N1 a1_z => ?_)
  have a1_z : Al r [(0, 101, 6)] M N1 := a1_z
  rw [B_9_12]
  refine ⟨⟨by decide, by decide⟩, a1_z.rm rm1 rm2 (by decide) (by decide), a1_z.kd hk, ?_⟩
  refine Al.go (P_z := fun N_z => At G 9 20 [a_r r] [] N_z Q) a1_z (by decide) (fun N2 a2 => ?_)
  have a2 : Al r [(0, 101, 6), (1, 100, 6)] M N2 := a2
  rw [B_9_20]
  exact hQ _ a2
theorem C_Sa (hz : gz M = r) (h0 : ¬ r = 0) (hk : gK M r = 4) (rm1 : r + 40 ≤ G.1 + 600000) (rm2 : gs M + 93 ≤ 7302249) (hQ : ∀ M1_z, Al r [(0, 119, 7), (1, 102, 6), (2, 100, 24), (3, 100, 56)] M M1_z → Q none (uI (uI (uI M1_z r 4 12) r 5 12) r 6 120)) : Call G J_Sa_init [a_r r] M Q := by
  have a0_z : Al r [] M M := Al.nil hz
  rw [E_Sa_init]
  rw [B_4_0]
  refine ⟨h0, ⟨by decide, by decide⟩, a0_z.rm rm1 rm2 (by decide) (by decide), a0_z.kd hk, ?_⟩
  refine Al.go (P_z := fun N_z => At G 4 13 [a_r r] [] N_z Q) a0_z (by decide) (fun N1 a1_z => ?_)
  have a1_z : Al r [(0, 119, 7)] M N1 := a1_z
  rw [B_4_13]
  refine ⟨⟨by decide, by decide⟩, a1_z.rm rm1 rm2 (by decide) (by decide), a1_z.kd hk, ?_⟩
  refine Al.go (P_z := fun N_z => At G 4 21 [a_r r] [] N_z Q) a1_z (by decide) (fun N2 a2 => ?_)
  have a2 : Al r [(0, 119, 7), (1, 102, 6)] M N2 := a2
  rw [B_4_21]
  refine ⟨⟨by decide, by decide⟩, a2.rm rm1 rm2 (by decide) (by decide), a2.kd hk, ?_⟩
  refine Al.go (P_z := fun N_z => At G 4 29 [a_r r] [] N_z Q) a2 (by decide) (fun N3 a3 => ?_)
  have a3 : Al r [(0, 119, 7), (1, 102, 6), (2, 100, 24)] M N3 := a3
  rw [B_4_29]
  refine ⟨⟨by decide, by decide⟩, a3.rm rm1 rm2 (by decide) (by decide), a3.kd hk, ?_⟩
  refine Al.go (P_z := fun N_z => At G 4 37 [a_r r] [] N_z Q) a3 (by decide) (fun N4_z a4 => ?_)
  have a4 : Al r [(0, 119, 7), (1, 102, 6), (2, 100, 24), (3, 100, 56)] M N4_z := a4
  have k4_z := a4.kd0 hk
  rw [B_4_37]
  refine ⟨k4_z, k4_z, ?_⟩
  rw [B_4_49]
  exact ⟨k4_z, hQ _ a4⟩
theorem C_M0 (hz : gz M = r) (h0 : ¬ r = 0) (hk : gK M r = 11) (rm1 : r + 40 ≤ G.1 + 600000) (rm2 : gs M + 25883 ≤ 7302249) (hQ : ∀ M1_z, Al r [(0, 100, 1216), (1, 100, 7296), (3, 100, 160), (8, 100, 9), (13, 100, 160), (17, 100, 20), (18, 100, 800), (22, 100, 28), (23, 100, 28), (24, 100, 28), (28, 100, 4848), (29, 100, 4848), (30, 100, 4848), (31, 100, 202), (32, 100, 202), (34, 100, 360), (37, 100, 5), (38, 100, 5), (39, 100, 5), (40, 100, 80), (41, 100, 80), (42, 100, 5), (43, 100, 15), (44, 100, 15), (51, 100, 600), (52, 100, 12), (53, 100, 4), (54, 100, 4)] M M1_z → At G 168 236 [a_r r, a_i 0] [] M1_z Q) : Call G J_M_init [a_r r] M Q := by
  have a0_z : Al r [] M M := Al.nil hz
  rw [E_M_init]
  rw [B_168_0]
  refine ⟨h0, ⟨by decide, by decide⟩, a0_z.rm rm1 rm2 (by decide) (by decide), a0_z.kd hk, ?_⟩
  refine Al.go (P_z := fun N_z => At G 168 13 [a_r r, a_u] [] N_z Q) a0_z (by decide) (fun N1 a1_z => ?_)
  have a1_z : Al r [(0, 100, 1216)] M N1 := a1_z
  rw [B_168_13]
  refine ⟨⟨by decide, by decide⟩, a1_z.rm rm1 rm2 (by decide) (by decide), a1_z.kd hk, ?_⟩
  refine Al.go (P_z := fun N_z => At G 168 22 [a_r r, a_u] [] N_z Q) a1_z (by decide) (fun N2 a2 => ?_)
  have a2 : Al r [(0, 100, 1216), (1, 100, 7296)] M N2 := a2
  rw [B_168_22]
  refine ⟨⟨by decide, by decide⟩, a2.rm rm1 rm2 (by decide) (by decide), a2.kd hk, ?_⟩
  refine Al.go (P_z := fun N_z => At G 168 31 [a_r r, a_u] [] N_z Q) a2 (by decide) (fun N3 a3 => ?_)
  have a3 : Al r [(0, 100, 1216), (1, 100, 7296), (3, 100, 160)] M N3 := a3
  rw [B_168_31]
  refine ⟨⟨by decide, by decide⟩, a3.rm rm1 rm2 (by decide) (by decide), a3.kd hk, ?_⟩
  refine Al.go (P_z := fun N_z => At G 168 39 [a_r r, a_u] [] N_z Q) a3 (by decide) (fun N4_z a4 => ?_)
  have a4 : Al r [(0, 100, 1216), (1, 100, 7296), (3, 100, 160), (8, 100, 9)] M N4_z := a4
  rw [B_168_39]
  refine ⟨⟨by decide, by decide⟩, a4.rm rm1 rm2 (by decide) (by decide), a4.kd hk, ?_⟩
  refine Al.go (P_z := fun N_z => At G 168 48 [a_r r, a_u] [] N_z Q) a4 (by decide) (fun N5 a5 => ?_)
  have a5 : Al r [(0, 100, 1216), (1, 100, 7296), (3, 100, 160), (8, 100, 9), (13, 100, 160)] M N5 := a5
  rw [B_168_48]
  refine ⟨⟨by decide, by decide⟩, a5.rm rm1 rm2 (by decide) (by decide), a5.kd hk, ?_⟩
  refine Al.go (P_z := fun N_z => At G 168 56 [a_r r, a_u] [] N_z Q) a5 (by decide) (fun N6 a6 => ?_)
  have a6 : Al r [(0, 100, 1216), (1, 100, 7296), (3, 100, 160), (8, 100, 9), (13, 100, 160), (17, 100, 20)] M N6 := a6
  rw [B_168_56]
  refine ⟨⟨by decide, by decide⟩, a6.rm rm1 rm2 (by decide) (by decide), a6.kd hk, ?_⟩
  refine Al.go (P_z := fun N_z => At G 168 65 [a_r r, a_u] [] N_z Q) a6 (by decide) (fun N7 a7 => ?_)
  have a7 : Al r [(0, 100, 1216), (1, 100, 7296), (3, 100, 160), (8, 100, 9), (13, 100, 160), (17, 100, 20), (18, 100, 800)] M N7 := a7
  rw [B_168_65]
  refine ⟨⟨by decide, by decide⟩, a7.rm rm1 rm2 (by decide) (by decide), a7.kd hk, ?_⟩
  refine Al.go (P_z := fun N_z => At G 168 73 [a_r r, a_u] [] N_z Q) a7 (by decide) (fun N8 a8 => ?_)
  have a8 : Al r [(0, 100, 1216), (1, 100, 7296), (3, 100, 160), (8, 100, 9), (13, 100, 160), (17, 100, 20), (18, 100, 800), (22, 100, 28)] M N8 := a8
  rw [B_168_73]
  refine ⟨⟨by decide, by decide⟩, a8.rm rm1 rm2 (by decide) (by decide), a8.kd hk, ?_⟩
  refine Al.go (P_z := fun N_z => At G 168 81 [a_r r, a_u] [] N_z Q) a8 (by decide) (fun N9 a9 => ?_)
  have a9 : Al r [(0, 100, 1216), (1, 100, 7296), (3, 100, 160), (8, 100, 9), (13, 100, 160), (17, 100, 20), (18, 100, 800), (22, 100, 28), (23, 100, 28)] M N9 := a9
  rw [B_168_81]
  refine ⟨⟨by decide, by decide⟩, a9.rm rm1 rm2 (by decide) (by decide), a9.kd hk, ?_⟩
  refine Al.go (P_z := fun N_z => At G 168 89 [a_r r, a_u] [] N_z Q) a9 (by decide) (fun N10 a10 => ?_)
  have a10 : Al r [(0, 100, 1216), (1, 100, 7296), (3, 100, 160), (8, 100, 9), (13, 100, 160), (17, 100, 20), (18, 100, 800), (22, 100, 28), (23, 100, 28), (24, 100, 28)] M N10 := a10
  rw [B_168_89]
  refine ⟨⟨by decide, by decide⟩, a10.rm rm1 rm2 (by decide) (by decide), a10.kd hk, ?_⟩
  refine Al.go (P_z := fun N_z => At G 168 98 [a_r r, a_u] [] N_z Q) a10 (by decide) (fun N11 a11 => ?_)
  have a11 : Al r [(0, 100, 1216), (1, 100, 7296), (3, 100, 160), (8, 100, 9), (13, 100, 160), (17, 100, 20), (18, 100, 800), (22, 100, 28), (23, 100, 28), (24, 100, 28), (28, 100, 4848)] M N11 := a11
  rw [B_168_98]
  refine ⟨⟨by decide, by decide⟩, a11.rm rm1 rm2 (by decide) (by decide), a11.kd hk, ?_⟩
  refine Al.go (P_z := fun N_z => At G 168 107 [a_r r, a_u] [] N_z Q) a11 (by decide) (fun N12 a12 => ?_)
  have a12 : Al r [(0, 100, 1216), (1, 100, 7296), (3, 100, 160), (8, 100, 9), (13, 100, 160), (17, 100, 20), (18, 100, 800), (22, 100, 28), (23, 100, 28), (24, 100, 28), (28, 100, 4848), (29, 100, 4848)] M N12 := a12
  rw [B_168_107]
  refine ⟨⟨by decide, by decide⟩, a12.rm rm1 rm2 (by decide) (by decide), a12.kd hk, ?_⟩
  refine Al.go (P_z := fun N_z => At G 168 116 [a_r r, a_u] [] N_z Q) a12 (by decide) (fun N13 a13 => ?_)
  have a13 : Al r [(0, 100, 1216), (1, 100, 7296), (3, 100, 160), (8, 100, 9), (13, 100, 160), (17, 100, 20), (18, 100, 800), (22, 100, 28), (23, 100, 28), (24, 100, 28), (28, 100, 4848), (29, 100, 4848), (30, 100, 4848)] M N13 := a13
  rw [B_168_116]
  refine ⟨⟨by decide, by decide⟩, a13.rm rm1 rm2 (by decide) (by decide), a13.kd hk, ?_⟩
  refine Al.go (P_z := fun N_z => At G 168 125 [a_r r, a_u] [] N_z Q) a13 (by decide) (fun N14 a14 => ?_)
  have a14 : Al r [(0, 100, 1216), (1, 100, 7296), (3, 100, 160), (8, 100, 9), (13, 100, 160), (17, 100, 20), (18, 100, 800), (22, 100, 28), (23, 100, 28), (24, 100, 28), (28, 100, 4848), (29, 100, 4848), (30, 100, 4848), (31, 100, 202)] M N14 := a14
  rw [B_168_125]
  refine ⟨⟨by decide, by decide⟩, a14.rm rm1 rm2 (by decide) (by decide), a14.kd hk, ?_⟩
  refine Al.go (P_z := fun N_z => At G 168 134 [a_r r, a_u] [] N_z Q) a14 (by decide) (fun N15 a15 => ?_)
  have a15 : Al r [(0, 100, 1216), (1, 100, 7296), (3, 100, 160), (8, 100, 9), (13, 100, 160), (17, 100, 20), (18, 100, 800), (22, 100, 28), (23, 100, 28), (24, 100, 28), (28, 100, 4848), (29, 100, 4848), (30, 100, 4848), (31, 100, 202), (32, 100, 202)] M N15 := a15
  rw [B_168_134]
  refine ⟨⟨by decide, by decide⟩, a15.rm rm1 rm2 (by decide) (by decide), a15.kd hk, ?_⟩
  refine Al.go (P_z := fun N_z => At G 168 143 [a_r r, a_u] [] N_z Q) a15 (by decide) (fun N16 a16 => ?_)
  have a16 : Al r [(0, 100, 1216), (1, 100, 7296), (3, 100, 160), (8, 100, 9), (13, 100, 160), (17, 100, 20), (18, 100, 800), (22, 100, 28), (23, 100, 28), (24, 100, 28), (28, 100, 4848), (29, 100, 4848), (30, 100, 4848), (31, 100, 202), (32, 100, 202), (34, 100, 360)] M N16 := a16
  rw [B_168_143]
  refine ⟨⟨by decide, by decide⟩, a16.rm rm1 rm2 (by decide) (by decide), a16.kd hk, ?_⟩
  refine Al.go (P_z := fun N_z => At G 168 150 [a_r r, a_u] [] N_z Q) a16 (by decide) (fun N17 a17 => ?_)
  have a17 : Al r [(0, 100, 1216), (1, 100, 7296), (3, 100, 160), (8, 100, 9), (13, 100, 160), (17, 100, 20), (18, 100, 800), (22, 100, 28), (23, 100, 28), (24, 100, 28), (28, 100, 4848), (29, 100, 4848), (30, 100, 4848), (31, 100, 202), (32, 100, 202), (34, 100, 360), (37, 100, 5)] M N17 := a17
  rw [B_168_150]
  refine ⟨⟨by decide, by decide⟩, a17.rm rm1 rm2 (by decide) (by decide), a17.kd hk, ?_⟩
  refine Al.go (P_z := fun N_z => At G 168 157 [a_r r, a_u] [] N_z Q) a17 (by decide) (fun N18 a18 => ?_)
  have a18 : Al r [(0, 100, 1216), (1, 100, 7296), (3, 100, 160), (8, 100, 9), (13, 100, 160), (17, 100, 20), (18, 100, 800), (22, 100, 28), (23, 100, 28), (24, 100, 28), (28, 100, 4848), (29, 100, 4848), (30, 100, 4848), (31, 100, 202), (32, 100, 202), (34, 100, 360), (37, 100, 5), (38, 100, 5)] M N18 := a18
  rw [B_168_157]
  refine ⟨⟨by decide, by decide⟩, a18.rm rm1 rm2 (by decide) (by decide), a18.kd hk, ?_⟩
  refine Al.go (P_z := fun N_z => At G 168 164 [a_r r, a_u] [] N_z Q) a18 (by decide) (fun N19 a19 => ?_)
  have a19 : Al r [(0, 100, 1216), (1, 100, 7296), (3, 100, 160), (8, 100, 9), (13, 100, 160), (17, 100, 20), (18, 100, 800), (22, 100, 28), (23, 100, 28), (24, 100, 28), (28, 100, 4848), (29, 100, 4848), (30, 100, 4848), (31, 100, 202), (32, 100, 202), (34, 100, 360), (37, 100, 5), (38, 100, 5), (39, 100, 5)] M N19 := a19
  rw [B_168_164]
  refine ⟨⟨by decide, by decide⟩, a19.rm rm1 rm2 (by decide) (by decide), a19.kd hk, ?_⟩
  refine Al.go (P_z := fun N_z => At G 168 172 [a_r r, a_u] [] N_z Q) a19 (by decide) (fun N20 a20 => ?_)
  have a20 : Al r [(0, 100, 1216), (1, 100, 7296), (3, 100, 160), (8, 100, 9), (13, 100, 160), (17, 100, 20), (18, 100, 800), (22, 100, 28), (23, 100, 28), (24, 100, 28), (28, 100, 4848), (29, 100, 4848), (30, 100, 4848), (31, 100, 202), (32, 100, 202), (34, 100, 360), (37, 100, 5), (38, 100, 5), (39, 100, 5), (40, 100, 80)] M N20 := a20
  rw [B_168_172]
  refine ⟨⟨by decide, by decide⟩, a20.rm rm1 rm2 (by decide) (by decide), a20.kd hk, ?_⟩
  refine Al.go (P_z := fun N_z => At G 168 180 [a_r r, a_u] [] N_z Q) a20 (by decide) (fun N21 a21 => ?_)
  have a21 : Al r [(0, 100, 1216), (1, 100, 7296), (3, 100, 160), (8, 100, 9), (13, 100, 160), (17, 100, 20), (18, 100, 800), (22, 100, 28), (23, 100, 28), (24, 100, 28), (28, 100, 4848), (29, 100, 4848), (30, 100, 4848), (31, 100, 202), (32, 100, 202), (34, 100, 360), (37, 100, 5), (38, 100, 5), (39, 100, 5), (40, 100, 80), (41, 100, 80)] M N21 := a21
  rw [B_168_180]
  refine ⟨⟨by decide, by decide⟩, a21.rm rm1 rm2 (by decide) (by decide), a21.kd hk, ?_⟩
  refine Al.go (P_z := fun N_z => At G 168 187 [a_r r, a_u] [] N_z Q) a21 (by decide) (fun N22 a22 => ?_)
  have a22 : Al r [(0, 100, 1216), (1, 100, 7296), (3, 100, 160), (8, 100, 9), (13, 100, 160), (17, 100, 20), (18, 100, 800), (22, 100, 28), (23, 100, 28), (24, 100, 28), (28, 100, 4848), (29, 100, 4848), (30, 100, 4848), (31, 100, 202), (32, 100, 202), (34, 100, 360), (37, 100, 5), (38, 100, 5), (39, 100, 5), (40, 100, 80), (41, 100, 80), (42, 100, 5)] M N22 := a22
  rw [B_168_187]
  refine ⟨⟨by decide, by decide⟩, a22.rm rm1 rm2 (by decide) (by decide), a22.kd hk, ?_⟩
  refine Al.go (P_z := fun N_z => At G 168 195 [a_r r, a_u] [] N_z Q) a22 (by decide) (fun N23 a23 => ?_)
  have a23 : Al r [(0, 100, 1216), (1, 100, 7296), (3, 100, 160), (8, 100, 9), (13, 100, 160), (17, 100, 20), (18, 100, 800), (22, 100, 28), (23, 100, 28), (24, 100, 28), (28, 100, 4848), (29, 100, 4848), (30, 100, 4848), (31, 100, 202), (32, 100, 202), (34, 100, 360), (37, 100, 5), (38, 100, 5), (39, 100, 5), (40, 100, 80), (41, 100, 80), (42, 100, 5), (43, 100, 15)] M N23 := a23
  rw [B_168_195]
  refine ⟨⟨by decide, by decide⟩, a23.rm rm1 rm2 (by decide) (by decide), a23.kd hk, ?_⟩
  refine Al.go (P_z := fun N_z => At G 168 203 [a_r r, a_u] [] N_z Q) a23 (by decide) (fun N24 a24 => ?_)
  have a24 : Al r [(0, 100, 1216), (1, 100, 7296), (3, 100, 160), (8, 100, 9), (13, 100, 160), (17, 100, 20), (18, 100, 800), (22, 100, 28), (23, 100, 28), (24, 100, 28), (28, 100, 4848), (29, 100, 4848), (30, 100, 4848), (31, 100, 202), (32, 100, 202), (34, 100, 360), (37, 100, 5), (38, 100, 5), (39, 100, 5), (40, 100, 80), (41, 100, 80), (42, 100, 5), (43, 100, 15), (44, 100, 15)] M N24 := a24
  rw [B_168_203]
  refine ⟨⟨by decide, by decide⟩, a24.rm rm1 rm2 (by decide) (by decide), a24.kd hk, ?_⟩
  refine Al.go (P_z := fun N_z => At G 168 212 [a_r r, a_u] [] N_z Q) a24 (by decide) (fun N25 a25 => ?_)
  have a25 : Al r [(0, 100, 1216), (1, 100, 7296), (3, 100, 160), (8, 100, 9), (13, 100, 160), (17, 100, 20), (18, 100, 800), (22, 100, 28), (23, 100, 28), (24, 100, 28), (28, 100, 4848), (29, 100, 4848), (30, 100, 4848), (31, 100, 202), (32, 100, 202), (34, 100, 360), (37, 100, 5), (38, 100, 5), (39, 100, 5), (40, 100, 80), (41, 100, 80), (42, 100, 5), (43, 100, 15), (44, 100, 15), (51, 100, 600)] M N25 := a25
  rw [B_168_212]
  refine ⟨⟨by decide, by decide⟩, a25.rm rm1 rm2 (by decide) (by decide), a25.kd hk, ?_⟩
  refine Al.go (P_z := fun N_z => At G 168 220 [a_r r, a_u] [] N_z Q) a25 (by decide) (fun N26 a26 => ?_)
  have a26 : Al r [(0, 100, 1216), (1, 100, 7296), (3, 100, 160), (8, 100, 9), (13, 100, 160), (17, 100, 20), (18, 100, 800), (22, 100, 28), (23, 100, 28), (24, 100, 28), (28, 100, 4848), (29, 100, 4848), (30, 100, 4848), (31, 100, 202), (32, 100, 202), (34, 100, 360), (37, 100, 5), (38, 100, 5), (39, 100, 5), (40, 100, 80), (41, 100, 80), (42, 100, 5), (43, 100, 15), (44, 100, 15), (51, 100, 600), (52, 100, 12)] M N26 := a26
  rw [B_168_220]
  refine ⟨⟨by decide, by decide⟩, a26.rm rm1 rm2 (by decide) (by decide), a26.kd hk, ?_⟩
  refine Al.go (P_z := fun N_z => At G 168 227 [a_r r, a_u] [] N_z Q) a26 (by decide) (fun N27 a27 => ?_)
  have a27 : Al r [(0, 100, 1216), (1, 100, 7296), (3, 100, 160), (8, 100, 9), (13, 100, 160), (17, 100, 20), (18, 100, 800), (22, 100, 28), (23, 100, 28), (24, 100, 28), (28, 100, 4848), (29, 100, 4848), (30, 100, 4848), (31, 100, 202), (32, 100, 202), (34, 100, 360), (37, 100, 5), (38, 100, 5), (39, 100, 5), (40, 100, 80), (41, 100, 80), (42, 100, 5), (43, 100, 15), (44, 100, 15), (51, 100, 600), (52, 100, 12), (53, 100, 4)] M N27 := a27
  rw [B_168_227]
  refine ⟨⟨by decide, by decide⟩, a27.rm rm1 rm2 (by decide) (by decide), a27.kd hk, ?_⟩
  refine Al.go (P_z := fun N_z => At G 168 234 [a_r r, a_u] [] N_z Q) a27 (by decide) (fun N28 a28 => ?_)
  have a28 : Al r [(0, 100, 1216), (1, 100, 7296), (3, 100, 160), (8, 100, 9), (13, 100, 160), (17, 100, 20), (18, 100, 800), (22, 100, 28), (23, 100, 28), (24, 100, 28), (28, 100, 4848), (29, 100, 4848), (30, 100, 4848), (31, 100, 202), (32, 100, 202), (34, 100, 360), (37, 100, 5), (38, 100, 5), (39, 100, 5), (40, 100, 80), (41, 100, 80), (42, 100, 5), (43, 100, 15), (44, 100, 15), (51, 100, 600), (52, 100, 12), (53, 100, 4), (54, 100, 4)] M N28 := a28
  rw [B_168_234]
  exact hQ _ a28
theorem C_Rd0 (hz : gz M = r) (h0 : ¬ r = 0) (hk : gK M r = 2) (rm1 : r + 40 ≤ G.1 + 600000) (rm2 : gs M + 640 ≤ 7302249) (hQ : ∀ M1_z, Al r [(0, 100, 160), (1, 150, 160), (2, 101, 160), (3, 100, 160)] M M1_z → At G 2 41 [a_r r] [] M1_z Q) : Call G J_Rd_init [a_r r] M Q := by
  have a0_z : Al r [] M M := Al.nil hz
  rw [E_Rd_init]
  rw [B_2_0]
  refine ⟨h0, ⟨by decide, by decide⟩, a0_z.rm rm1 rm2 (by decide) (by decide), a0_z.kd hk, ?_⟩
  refine Al.go (P_z := fun N_z => At G 2 13 [a_r r] [] N_z Q) a0_z (by decide) (fun N1 a1_z => ?_)
  have a1_z : Al r [(0, 100, 160)] M N1 := a1_z
  rw [B_2_13]
  refine ⟨⟨by decide, by decide⟩, a1_z.rm rm1 rm2 (by decide) (by decide), a1_z.kd hk, ?_⟩
  refine Al.go (P_z := fun N_z => At G 2 23 [a_r r] [] N_z Q) a1_z (by decide) (fun N2 a2 => ?_)
  have a2 : Al r [(0, 100, 160), (1, 150, 160)] M N2 := a2
  rw [B_2_23]
  refine ⟨⟨by decide, by decide⟩, a2.rm rm1 rm2 (by decide) (by decide), a2.kd hk, ?_⟩
  refine Al.go (P_z := fun N_z => At G 2 32 [a_r r] [] N_z Q) a2 (by decide) (fun N3 a3 => ?_)
  have a3 : Al r [(0, 100, 160), (1, 150, 160), (2, 101, 160)] M N3 := a3
  rw [B_2_32]
  refine ⟨⟨by decide, by decide⟩, a3.rm rm1 rm2 (by decide) (by decide), a3.kd hk, ?_⟩
  refine Al.go (P_z := fun N_z => At G 2 41 [a_r r] [] N_z Q) a3 (by decide) (fun N4_z a4 => ?_)
  have a4 : Al r [(0, 100, 160), (1, 150, 160), (2, 101, 160), (3, 100, 160)] M N4_z := a4
  exact hQ _ a4
end CO
