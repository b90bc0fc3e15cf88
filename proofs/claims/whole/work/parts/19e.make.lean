/-! THE PURE PART, part 19: the making of X. Own work (written by a program of its own). -/
theorem Hp.cast {c s_z s2_z : Nat} {l l2 : List Sp} {M0 M : Mem} (h_z : Hp c l s_z M0 M) (hl : l = l2) (hs : s_z = s2_z) : Hp c l2 s2_z M0 M := by
  subst hl
  subst hs
  exact h_z
def hl0 : List Sp := [(1, 0, [], [])]
def hl1 : List Sp := hl0 ++ [(2, 0, [], [])]
def hl2 : List Sp := alL hl1 1 [(0, 100, 160), (1, 150, 160), (2, 101, 160), (3, 100, 160)]
def hl3 : List Sp := hl2 ++ [(3, 0, [], [])]
def hl4 : List Sp := alL hl3 6 [(0, 150, 9), (1, 100, 9)]
def hl5 : List Sp := stR hl4 1 4 6
def hl6 : List Sp := stR hl5 0 0 1
def hl7 : List Sp := hl6 ++ [(4, 0, [], [])]
def hl8 : List Sp := alL hl7 9 [(0, 119, 7), (1, 102, 6), (2, 100, 24), (3, 100, 56)]
def hl9 : List Sp := stI hl8 9 4 12
def hl10 : List Sp := stI hl9 9 5 12
def hl11 : List Sp := stI hl10 9 6 120
def hl12 : List Sp := stR hl11 0 1 9
def hl13 : List Sp := hl12 ++ [(113, 6, [], [])]
def hl14 : List Sp := stR hl13 0 2 14
def hl15 : List Sp := hl14 ++ [(5, 0, [], [])]
def hl16 : List Sp := alL hl15 15 [(0, 117, 5), (1, 118, 35)]
def hl17 : List Sp := hl16 ++ [(7, 0, [], [])]
def hl18 : List Sp := hl17 ++ [(6, 0, [], [])]
def hl19 : List Sp := alL hl18 19 [(0, 100, 800), (1, 100, 800), (2, 102, 800), (3, 100, 201), (4, 102, 201)]
def hl20 : List Sp := stR hl19 18 0 19
def hl21 : List Sp := hl20 ++ [(100, 30, [], [])]
def hl22 : List Sp := stR hl21 18 1 25
def hl23 : List Sp := hl22 ++ [(102, 30, [], [])]
def hl24 : List Sp := stR hl23 18 2 26
def hl25 : List Sp := hl24 ++ [(100, 30, [], [])]
def hl26 : List Sp := stR hl25 18 3 27
def hl27 : List Sp := hl26 ++ [(100, 30, [], [])]
def hl28 : List Sp := stR hl27 18 4 28
def hl29 : List Sp := hl28 ++ [(100, 30, [], [])]
def hl30 : List Sp := stR hl29 18 5 29
def hl31 : List Sp := hl30 ++ [(100, 30, [], [])]
def hl32 : List Sp := stR hl31 18 6 30
def hl33 : List Sp := hl32 ++ [(100, 180, [], [])]
def hl34 : List Sp := stR hl33 18 7 31
def hl35 : List Sp := stR hl34 15 2 18
def hl36 : List Sp := stR hl35 15 3 19
def hl37 : List Sp := hl36 ++ [(100, 200, [], [])]
def hl38 : List Sp := stR hl37 15 4 32
def hl39 : List Sp := hl38 ++ [(100, 200, [], [])]
def hl40 : List Sp := stR hl39 15 5 33
def hl41 : List Sp := hl40 ++ [(100, 200, [], [])]
def hl42 : List Sp := stR hl41 15 6 34
def hl43 : List Sp := hl42 ++ [(101, 6, [], [])]
def hl44 : List Sp := stR hl43 15 7 35
def hl45 : List Sp := hl44 ++ [(100, 8, [], [])]
def hl46 : List Sp := stR hl45 15 8 36
def frL : Nat → List Sp
  | 0 => hl46
  | i_z + 1 => stR (alL (frL i_z ++ [(8, 0, [], [])]) (37 + 4 * i_z) [(0, 101, 16), (1, 100, 3), (2, 100, 3)]) 16 (i_z : Int) (37 + 4 * i_z)
def grL : Nat → List Sp
  | 0 => frL 5
  | i_z + 1 => stR (alL (grL i_z ++ [(9, 0, [], [])]) (57 + 3 * i_z) [(0, 101, 6), (1, 100, 6)]) 17 (i_z : Int) (57 + 3 * i_z)
def saL : Nat → List Sp
  | 0 => stR (grL 35) 0 3 15
  | i_z + 1 => stR (stI (stI (stI (alL (saL i_z ++ [(4, 0, [], [])]) (162 + 5 * i_z) [(0, 119, 7), (1, 102, 6), (2, 100, 24), (3, 100, 56)]) (162 + 5 * i_z) 4 12) (162 + 5 * i_z) 5 12) (162 + 5 * i_z) 6 120) 14 (i_z : Int) (162 + 5 * i_z)
def pay : Nat → Nat → Nat → Nat
  | s_z, _, 0 => s_z
  | s_z, w_z, i_z + 1 => pay s_z w_z i_z + w_z
section MK
variable {G : Env0} {Q : Option AV → Mem → Prop} {M M0 : Mem} {c : Nat}
theorem T_Rd (h_z : Hp c hl1 12 M0 M) (hc_z : c = G.1 + 1) (hQ : ∀ N_z, Hp c hl5 678 M0 N_z → Q none N_z) : Call G J_Rd_init [a_r (c + 1)] M Q := by
  refine C_Rd0 (r := c + 1) (by have := h_z.sz (n_z := 2) (by decide +kernel); omega) (by omega) (h_z.kd (i_z := 1) rfl (by decide +kernel) (by decide +kernel)) (by omega) (by rw [h_z.2.1]; decide) (fun N1 a1_z => ?_)
  have g1 : Hp c hl2 652 M0 N1 := (h_z.al (j_z := 1) (by decide +kernel) a1_z).cast rfl (by decide)
  rw [B_2_41]
  refine ⟨g1.rm hc_z (by decide +kernel) (by decide +kernel), nK_at rfl, ?_⟩
  rw [g1.sz (n_z := 6) (by decide +kernel)]
  have g2 : Hp c hl3 660 M0 (uN N1 3 0 8) := g1.new.cast rfl (by decide)
  generalize uN N1 3 0 8 = N2 at g2 ⊢
  refine C_St (r := c + 6) (by have := g2.sz (n_z := 7) (by decide +kernel); omega) (by omega) (g2.kd (i_z := 6) rfl (by decide +kernel) (by decide +kernel)) (by omega) (by rw [g2.2.1]; decide) (fun N3 a3 => ?_)
  have g3_z : Hp c hl4 678 M0 N3 := (g2.al (j_z := 6) (by decide +kernel) a3).cast rfl (by decide)
  simp only [Option.toList_some, Option.toList_none, List.cons_append, List.nil_append, List.append_nil]
  rw [B_2_49]
  refine ⟨g3_z.kd (i_z := 1) rfl (by decide +kernel) (by decide +kernel), ?_⟩
  have g4 : Hp c hl5 678 M0 (uR N3 (c + 1) 4 (c + 6)) := (g3_z.setR (i_z := 1) (o := 6) (by decide +kernel) rfl rfl (by decide)).cast rfl rfl
  generalize uR N3 (c + 1) 4 (c + 6) = N4_z at g4 ⊢
  exact hQ _ g4
theorem T_XA (h_z : Hp c hl0 5 M0 M) (hc_z : c = G.1 + 1) (hQ : ∀ N_z, Hp c hl15 802 M0 N_z → At G 1 39 [a_r c, a_u] [a_r (c + 15), a_r c] N_z Q) : Call G J_X_init [a_r c] M Q := by
  rw [E_X_init, B_1_0]
  refine ⟨by omega, h_z.rm hc_z (by decide) (by decide), nK_at rfl, ?_⟩
  rw [h_z.sz (n_z := 1) rfl]
  have g0 : Hp c hl1 12 M0 (uN M 2 0 7) := h_z.new.cast rfl (by decide)
  generalize uN M 2 0 7 = N0 at g0 ⊢
  refine T_Rd g0 hc_z (fun N5 g5_z => ?_)
  simp only [Option.toList_some, Option.toList_none, List.cons_append, List.nil_append, List.append_nil]
  rw [B_1_12]
  refine ⟨g5_z.kd (i_z := 0) rfl (by decide +kernel) (by decide +kernel), ?_⟩
  have g6 : Hp c hl6 678 M0 (uR N5 c 0 (c + 1)) := (g5_z.setR (i_z := 0) (o := 1) (by decide +kernel) rfl rfl (by decide)).cast rfl rfl
  generalize uR N5 c 0 (c + 1) = N6 at g6 ⊢
  refine ⟨g6.rm hc_z (by decide +kernel) (by decide +kernel), ?_⟩
  rw [g6.sz (n_z := 9) (by decide +kernel)]
  have g7 : Hp c hl7 685 M0 (uN N6 4 0 7) := g6.new.cast rfl (by decide)
  generalize uN N6 4 0 7 = N7 at g7 ⊢
  rw [B_1_19]
  refine ⟨g7.kd (i_z := 9) rfl (by decide +kernel) (by decide +kernel), ?_⟩
  refine C_Sa (r := c + 9) (by have := g7.sz (n_z := 10) (by decide +kernel); omega) (by omega) (g7.kd (i_z := 9) rfl (by decide +kernel) (by decide +kernel)) (by omega) (by rw [g7.2.1]; decide) (fun N8 a8 => ?_)
  have g8 : Hp c hl8 778 M0 N8 := (g7.al (j_z := 9) (by decide +kernel) a8).cast rfl (by decide)
  have g9 : Hp c hl11 778 M0 (uI (uI (uI N8 (c + 9) 4 12) (c + 9) 5 12) (c + 9) 6 120) := (((g8.setI (i_z := 9) (f_z := 4) (v_z := 12) (by decide +kernel) rfl).setI (i_z := 9) (f_z := 5) (v_z := 12) (by decide +kernel) rfl).setI (i_z := 9) (f_z := 6) (v_z := 120) (by decide +kernel) rfl).cast rfl rfl
  generalize uI (uI (uI N8 (c + 9) 4 12) (c + 9) 5 12) (c + 9) 6 120 = N9 at g9 ⊢
  simp only [Option.toList_some, Option.toList_none, List.cons_append, List.nil_append, List.append_nil]
  rw [B_1_23]
  refine ⟨g9.kd (i_z := 0) rfl (by decide +kernel) (by decide +kernel), ⟨by decide, by decide⟩, ?_⟩
  have g10 : Hp c hl12 778 M0 (uR N9 c 1 (c + 9)) := (g9.setR (i_z := 0) (o := 9) (by decide +kernel) rfl rfl (by decide)).cast rfl rfl
  generalize uR N9 c 1 (c + 9) = N10 at g10 ⊢
  refine ⟨g10.rm hc_z (by decide +kernel) (by decide +kernel), ?_⟩
  rw [g10.sz (n_z := 14) (by decide +kernel)]
  have g11 : Hp c hl13 784 M0 (uN N10 113 6 (Int.toNat 6)) := g10.new.cast rfl (by decide)
  generalize uN N10 113 6 (Int.toNat 6) = N11 at g11 ⊢
  rw [B_1_32]
  refine ⟨g11.kd (i_z := 0) rfl (by decide +kernel) (by decide +kernel), ?_⟩
  have g12 : Hp c hl14 784 M0 (uR N11 c 2 (c + 14)) := (g11.setR (i_z := 0) (o := 14) (by decide +kernel) rfl rfl (by decide)).cast rfl rfl
  generalize uR N11 c 2 (c + 14) = N12 at g12 ⊢
  refine ⟨g12.rm hc_z (by decide +kernel) (by decide +kernel), ?_⟩
  rw [g12.sz (n_z := 15) (by decide +kernel)]
  have g13 : Hp c hl15 802 M0 (uN N12 5 0 18) := g12.new.cast rfl (by decide)
  generalize uN N12 5 0 18 = N13 at g13 ⊢
  exact hQ _ g13
theorem T_Ma0 (h_z : Hp c hl15 802 M0 M) (hc_z : c = G.1 + 1) (hQ : ∀ N_z, Hp c hl46 4635 M0 N_z → At G 5 88 [a_r (c + 15), a_i 0] [] N_z Q) : Call G J_Ma_init [a_r (c + 15)] M Q := by
  have a0_z : Al (c + 15) [] M M := Al.nil (by have := h_z.sz (n_z := 16) (by decide +kernel); omega)
  have hk : gK M (c + 15) = 5 := h_z.kd (i_z := 15) rfl (by decide +kernel) (by decide +kernel)
  have rm1 : c + 15 + 40 ≤ G.1 + 600000 := by omega
  have rm2 : gs M + 40 ≤ 7302249 := by rw [h_z.2.1]; decide
  rw [E_Ma_init, B_5_0]
  refine ⟨by omega, ⟨by decide, by decide⟩, a0_z.rm rm1 rm2 (by decide) (by decide), a0_z.kd hk, ?_⟩
  refine Al.go (P_z := fun N_z => At G 5 12 [a_r (c + 15), a_u] [] N_z Q) a0_z (by decide) (fun N1 a1_z => ?_)
  have a1_z : Al (c + 15) [(0, 117, 5)] M N1 := a1_z
  rw [B_5_12]
  refine ⟨⟨by decide, by decide⟩, a1_z.rm rm1 rm2 (by decide) (by decide), a1_z.kd hk, ?_⟩
  refine Al.go (P_z := fun N_z => At G 5 21 [a_r (c + 15), a_u] [] N_z Q) a1_z (by decide) (fun N2 a2 => ?_)
  have a2 : Al (c + 15) [(0, 117, 5), (1, 118, 35)] M N2 := a2
  have g14 : Hp c hl16 842 M0 N2 := (h_z.al (j_z := 15) (by decide +kernel) a2).cast rfl (by decide)
  generalize N2 = N14 at g14 ⊢
  rw [B_5_21]
  refine ⟨g14.rm hc_z (by decide +kernel) (by decide +kernel), nK_at rfl, ?_⟩
  rw [g14.sz (n_z := 18) (by decide +kernel)]
  have g15 : Hp c hl17 851 M0 (uN N14 7 0 9) := g14.new.cast rfl (by decide)
  generalize uN N14 7 0 9 = N15 at g15 ⊢
  rw [E_It_init, B_6_0]
  refine ⟨by omega, g15.rm hc_z (by decide +kernel) (by decide +kernel), nK_at rfl, ?_⟩
  rw [g15.sz (n_z := 19) (by decide +kernel)]
  have g16 : Hp c hl18 859 M0 (uN N15 6 0 8) := g15.new.cast rfl (by decide)
  generalize uN N15 6 0 8 = N16 at g16 ⊢
  refine C_Pa (r := c + 19) (by have := g16.sz (n_z := 20) (by decide +kernel); omega) (by omega) (g16.kd (i_z := 19) rfl (by decide +kernel) (by decide +kernel)) (by omega) (by rw [g16.2.1]; decide) (fun N17 a17 => ?_)
  have g17 : Hp c hl19 3661 M0 N17 := (g16.al (j_z := 19) (by decide +kernel) a17).cast rfl (by decide)
  simp only [Option.toList_some, Option.toList_none, List.cons_append, List.nil_append, List.append_nil]
  rw [B_6_12]
  refine ⟨g17.kd (i_z := 18) rfl (by decide +kernel) (by decide +kernel), ⟨by decide, by decide⟩, ?_⟩
  have g18 : Hp c hl20 3661 M0 (uR N17 (c + 18) 0 (c + 19)) := (g17.setR (i_z := 18) (o := 19) (by decide +kernel) rfl rfl (by decide)).cast rfl rfl
  generalize uR N17 (c + 18) 0 (c + 19) = N18 at g18 ⊢
  refine ⟨g18.rm hc_z (by decide +kernel) (by decide +kernel), ?_⟩
  rw [g18.sz (n_z := 25) (by decide +kernel)]
  have g19 : Hp c hl21 3691 M0 (uN N18 100 30 (Int.toNat 30)) := g18.new.cast rfl (by decide)
  generalize uN N18 100 30 (Int.toNat 30) = N19 at g19 ⊢
  rw [B_6_20]
  refine ⟨g19.kd (i_z := 18) rfl (by decide +kernel) (by decide +kernel), ⟨by decide, by decide⟩, ?_⟩
  have g20 : Hp c hl22 3691 M0 (uR N19 (c + 18) 1 (c + 25)) := (g19.setR (i_z := 18) (o := 25) (by decide +kernel) rfl rfl (by decide)).cast rfl rfl
  generalize uR N19 (c + 18) 1 (c + 25) = N20 at g20 ⊢
  refine ⟨g20.rm hc_z (by decide +kernel) (by decide +kernel), ?_⟩
  rw [g20.sz (n_z := 26) (by decide +kernel)]
  have g21 : Hp c hl23 3721 M0 (uN N20 102 30 (Int.toNat 30)) := g20.new.cast rfl (by decide)
  generalize uN N20 102 30 (Int.toNat 30) = N21 at g21 ⊢
  rw [B_6_28]
  refine ⟨g21.kd (i_z := 18) rfl (by decide +kernel) (by decide +kernel), ⟨by decide, by decide⟩, ?_⟩
  have g22 : Hp c hl24 3721 M0 (uR N21 (c + 18) 2 (c + 26)) := (g21.setR (i_z := 18) (o := 26) (by decide +kernel) rfl rfl (by decide)).cast rfl rfl
  generalize uR N21 (c + 18) 2 (c + 26) = N22 at g22 ⊢
  refine ⟨g22.rm hc_z (by decide +kernel) (by decide +kernel), ?_⟩
  rw [g22.sz (n_z := 27) (by decide +kernel)]
  have g23 : Hp c hl25 3751 M0 (uN N22 100 30 (Int.toNat 30)) := g22.new.cast rfl (by decide)
  generalize uN N22 100 30 (Int.toNat 30) = N23 at g23 ⊢
  rw [B_6_36]
  refine ⟨g23.kd (i_z := 18) rfl (by decide +kernel) (by decide +kernel), ⟨by decide, by decide⟩, ?_⟩
  have g24 : Hp c hl26 3751 M0 (uR N23 (c + 18) 3 (c + 27)) := (g23.setR (i_z := 18) (o := 27) (by decide +kernel) rfl rfl (by decide)).cast rfl rfl
  generalize uR N23 (c + 18) 3 (c + 27) = N24 at g24 ⊢
  refine ⟨g24.rm hc_z (by decide +kernel) (by decide +kernel), ?_⟩
  rw [g24.sz (n_z := 28) (by decide +kernel)]
  have g25 : Hp c hl27 3781 M0 (uN N24 100 30 (Int.toNat 30)) := g24.new.cast rfl (by decide)
  generalize uN N24 100 30 (Int.toNat 30) = N25 at g25 ⊢
  rw [B_6_44]
  refine ⟨g25.kd (i_z := 18) rfl (by decide +kernel) (by decide +kernel), ⟨by decide, by decide⟩, ?_⟩
  have g26 : Hp c hl28 3781 M0 (uR N25 (c + 18) 4 (c + 28)) := (g25.setR (i_z := 18) (o := 28) (by decide +kernel) rfl rfl (by decide)).cast rfl rfl
  generalize uR N25 (c + 18) 4 (c + 28) = N26 at g26 ⊢
  refine ⟨g26.rm hc_z (by decide +kernel) (by decide +kernel), ?_⟩
  rw [g26.sz (n_z := 29) (by decide +kernel)]
  have g27 : Hp c hl29 3811 M0 (uN N26 100 30 (Int.toNat 30)) := g26.new.cast rfl (by decide)
  generalize uN N26 100 30 (Int.toNat 30) = N27 at g27 ⊢
  rw [B_6_52]
  refine ⟨g27.kd (i_z := 18) rfl (by decide +kernel) (by decide +kernel), ⟨by decide, by decide⟩, ?_⟩
  have g28 : Hp c hl30 3811 M0 (uR N27 (c + 18) 5 (c + 29)) := (g27.setR (i_z := 18) (o := 29) (by decide +kernel) rfl rfl (by decide)).cast rfl rfl
  generalize uR N27 (c + 18) 5 (c + 29) = N28 at g28 ⊢
  refine ⟨g28.rm hc_z (by decide +kernel) (by decide +kernel), ?_⟩
  rw [g28.sz (n_z := 30) (by decide +kernel)]
  have g29 : Hp c hl31 3841 M0 (uN N28 100 30 (Int.toNat 30)) := g28.new.cast rfl (by decide)
  generalize uN N28 100 30 (Int.toNat 30) = N29 at g29 ⊢
  rw [B_6_60]
  refine ⟨g29.kd (i_z := 18) rfl (by decide +kernel) (by decide +kernel), ⟨by decide, by decide⟩, ?_⟩
  have g30 : Hp c hl32 3841 M0 (uR N29 (c + 18) 6 (c + 30)) := (g29.setR (i_z := 18) (o := 30) (by decide +kernel) rfl rfl (by decide)).cast rfl rfl
  generalize uR N29 (c + 18) 6 (c + 30) = N30 at g30 ⊢
  refine ⟨g30.rm hc_z (by decide +kernel) (by decide +kernel), ?_⟩
  rw [g30.sz (n_z := 31) (by decide +kernel)]
  have g31 : Hp c hl33 4021 M0 (uN N30 100 180 (Int.toNat 180)) := g30.new.cast rfl (by decide)
  generalize uN N30 100 180 (Int.toNat 180) = N31 at g31 ⊢
  rw [B_6_69]
  refine ⟨g31.kd (i_z := 18) rfl (by decide +kernel) (by decide +kernel), ?_⟩
  have g32 : Hp c hl34 4021 M0 (uR N31 (c + 18) 7 (c + 31)) := (g31.setR (i_z := 18) (o := 31) (by decide +kernel) rfl rfl (by decide)).cast rfl rfl
  generalize uR N31 (c + 18) 7 (c + 31) = N32 at g32 ⊢
  simp only [Option.toList_some, Option.toList_none, List.cons_append, List.nil_append, List.append_nil]
  rw [B_5_29]
  refine ⟨g32.kd (i_z := 15) rfl (by decide +kernel) (by decide +kernel), ?_⟩
  have g33 : Hp c hl35 4021 M0 (uR N32 (c + 15) 2 (c + 18)) := (g32.setR (i_z := 15) (o := 18) (by decide +kernel) rfl rfl (by decide)).cast rfl rfl
  generalize uR N32 (c + 15) 2 (c + 18) = N33 at g33 ⊢
  rw [g33.rf (i_z := 15) (f_z := 2) (o := 18) rfl (by decide +kernel) (by decide +kernel) (by decide), g33.rf (i_z := 18) (f_z := 0) (o := 19) rfl (by decide +kernel) (by decide +kernel) (by decide)]
  refine ⟨g33.kd (i_z := 15) rfl (by decide +kernel) (by decide +kernel), g33.kd (i_z := 18) rfl (by decide +kernel) (by decide +kernel), g33.kd (i_z := 15) rfl (by decide +kernel) (by decide +kernel), ?_⟩
  have g34 : Hp c hl36 4021 M0 (uR N33 (c + 15) 3 (c + 19)) := (g33.setR (i_z := 15) (o := 19) (by decide +kernel) rfl rfl (by decide)).cast rfl rfl
  generalize uR N33 (c + 15) 3 (c + 19) = N34 at g34 ⊢
  rw [B_5_43]
  refine ⟨⟨by decide, by decide⟩, g34.rm hc_z (by decide +kernel) (by decide +kernel), ?_⟩
  rw [g34.sz (n_z := 32) (by decide +kernel)]
  have g35_z : Hp c hl37 4221 M0 (uN N34 100 200 (Int.toNat 200)) := g34.new.cast rfl (by decide)
  generalize uN N34 100 200 (Int.toNat 200) = N35 at g35_z ⊢
  refine ⟨g35_z.kd (i_z := 15) rfl (by decide +kernel) (by decide +kernel), ?_⟩
  have g36 : Hp c hl38 4221 M0 (uR N35 (c + 15) 4 (c + 32)) := (g35_z.setR (i_z := 15) (o := 32) (by decide +kernel) rfl rfl (by decide)).cast rfl rfl
  generalize uR N35 (c + 15) 4 (c + 32) = N36 at g36 ⊢
  rw [B_5_52]
  refine ⟨⟨by decide, by decide⟩, g36.rm hc_z (by decide +kernel) (by decide +kernel), ?_⟩
  rw [g36.sz (n_z := 33) (by decide +kernel)]
  have g37 : Hp c hl39 4421 M0 (uN N36 100 200 (Int.toNat 200)) := g36.new.cast rfl (by decide)
  generalize uN N36 100 200 (Int.toNat 200) = N37 at g37 ⊢
  refine ⟨g37.kd (i_z := 15) rfl (by decide +kernel) (by decide +kernel), ?_⟩
  have g38 : Hp c hl40 4421 M0 (uR N37 (c + 15) 5 (c + 33)) := (g37.setR (i_z := 15) (o := 33) (by decide +kernel) rfl rfl (by decide)).cast rfl rfl
  generalize uR N37 (c + 15) 5 (c + 33) = N38 at g38 ⊢
  rw [B_5_61]
  refine ⟨⟨by decide, by decide⟩, g38.rm hc_z (by decide +kernel) (by decide +kernel), ?_⟩
  rw [g38.sz (n_z := 34) (by decide +kernel)]
  have g39 : Hp c hl41 4621 M0 (uN N38 100 200 (Int.toNat 200)) := g38.new.cast rfl (by decide)
  generalize uN N38 100 200 (Int.toNat 200) = N39 at g39 ⊢
  refine ⟨g39.kd (i_z := 15) rfl (by decide +kernel) (by decide +kernel), ?_⟩
  have g40 : Hp c hl42 4621 M0 (uR N39 (c + 15) 6 (c + 34)) := (g39.setR (i_z := 15) (o := 34) (by decide +kernel) rfl rfl (by decide)).cast rfl rfl
  generalize uR N39 (c + 15) 6 (c + 34) = N40 at g40 ⊢
  rw [B_5_70]
  refine ⟨⟨by decide, by decide⟩, g40.rm hc_z (by decide +kernel) (by decide +kernel), ?_⟩
  rw [g40.sz (n_z := 35) (by decide +kernel)]
  have g41 : Hp c hl43 4627 M0 (uN N40 101 6 (Int.toNat 6)) := g40.new.cast rfl (by decide)
  generalize uN N40 101 6 (Int.toNat 6) = N41 at g41 ⊢
  refine ⟨g41.kd (i_z := 15) rfl (by decide +kernel) (by decide +kernel), ?_⟩
  have g42 : Hp c hl44 4627 M0 (uR N41 (c + 15) 7 (c + 35)) := (g41.setR (i_z := 15) (o := 35) (by decide +kernel) rfl rfl (by decide)).cast rfl rfl
  generalize uR N41 (c + 15) 7 (c + 35) = N42 at g42 ⊢
  rw [B_5_78]
  refine ⟨⟨by decide, by decide⟩, g42.rm hc_z (by decide +kernel) (by decide +kernel), ?_⟩
  rw [g42.sz (n_z := 36) (by decide +kernel)]
  have g43 : Hp c hl45 4635 M0 (uN N42 100 8 (Int.toNat 8)) := g42.new.cast rfl (by decide)
  generalize uN N42 100 8 (Int.toNat 8) = N43 at g43 ⊢
  refine ⟨g43.kd (i_z := 15) rfl (by decide +kernel) (by decide +kernel), ?_⟩
  have g44 : Hp c hl46 4635 M0 (uR N43 (c + 15) 8 (c + 36)) := (g43.setR (i_z := 15) (o := 36) (by decide +kernel) rfl rfl (by decide)).cast rfl rfl
  generalize uR N43 (c + 15) 8 (c + 36) = N44 at g44 ⊢
  rw [B_5_86]
  exact hQ _ g44
theorem fr_fact : ∀ i_z, i_z ≤ 5 → (frL i_z).length = 37 + 4 * i_z ∧ (sp (frL i_z) 15).1 = 5 ∧ (sp (frL i_z) 16).1 = 117 ∧ (sp (frL i_z) 16).2.1 = 5 ∧ lkR (sp (frL i_z) 15).2.2.1 0 = 16 := by decide +kernel
theorem gr_fact : ∀ i_z, i_z ≤ 35 → (grL i_z).length = 57 + 3 * i_z ∧ (sp (grL i_z) 15).1 = 5 ∧ (sp (grL i_z) 17).1 = 118 ∧ (sp (grL i_z) 17).2.1 = 35 ∧ lkR (sp (grL i_z) 15).2.2.1 1 = 17 := by decide +kernel
theorem sa_fact : ∀ i_z, i_z ≤ 6 → (saL i_z).length = 162 + 5 * i_z ∧ (sp (saL i_z) 0).1 = 1 ∧ (sp (saL i_z) 14).1 = 113 ∧ (sp (saL i_z) 14).2.1 = 6 ∧ lkR (sp (saL i_z) 0).2.2.1 2 = 14 := by decide +kernel
theorem T_frames (hc_z : c = G.1 + 1) (hQ : ∀ N_z, Hp c (frL 5) (4635 + 30 * 5) M0 N_z → At G 5 116 [a_r (c + 15), a_i 5] [] N_z Q) : ∀ (d_z i_z : Nat), i_z + d_z = 5 → ∀ M, Hp c (frL i_z) (4635 + 30 * i_z) M0 M → At G 5 88 [a_r (c + 15), a_i (i_z : Int)] [] M Q := by
  intro d_z
  induction d_z with
  | zero =>
    intro i_z hi_z M h_z
    have e_z : i_z = 5 := by omega
    subst e_z
    obtain ⟨f1_z, f2_z, f3_z, f4_z, f5_z⟩ := fr_fact 5 (by decide)
    have r0 := h_z.rf (i_z := 15) (a_z := c + 15) rfl (by omega) f5_z (by decide)
    rw [B_5_88, r0, h_z.kd (i_z := 16) rfl (by omega) f3_z, h_z.ln (i_z := 16) rfl (by omega) f4_z]
    exact ⟨h_z.kd (i_z := 15) rfl (by omega) f2_z, by decide, fun _ => hQ M h_z, fun w_z => absurd (Int.le_refl _) w_z⟩
  | succ d_z ih_z =>
    intro i_z hi_z M h_z
    obtain ⟨f1_z, f2_z, f3_z, f4_z, f5_z⟩ := fr_fact i_z (by omega)
    have r0 := h_z.rf (i_z := 15) (a_z := c + 15) rfl (by omega) f5_z (by decide)
    have k16 := h_z.kd (i_z := 16) (a_z := c + 16) rfl (by omega) f3_z
    have n16 := h_z.ln (i_z := 16) (a_z := c + 16) rfl (by omega) f4_z
    rw [B_5_88, r0, k16, n16]
    refine ⟨h_z.kd (i_z := 15) rfl (by omega) f2_z, by decide, fun w_z => absurd w_z (by omega), fun _ => ⟨h_z.kd (i_z := 15) rfl (by omega) f2_z, h_z.rm hc_z (by omega) (by omega), nK_at rfl, ?_⟩⟩
    have hs := h_z.sz f1_z
    rw [hs]
    have h1 : Hp c (frL i_z ++ [(8, 0, [], [])]) (4635 + 30 * i_z + 8) M0 (uN M 8 0 8) := h_z.new
    generalize uN M 8 0 8 = M1_z at h1 ⊢
    have l1 : (frL i_z ++ [((8, 0, [], []) : Sp)]).length = 37 + 4 * i_z + 1 := by rw [List.length_append, f1_z]; rfl
    have kk : gK M1_z (c + (37 + 4 * i_z)) = 8 := h1.kd (i_z := 37 + 4 * i_z) rfl (by omega) (by
      have := sp_right (l := frL i_z) (k_z := [((8, 0, [], []) : Sp)]) (i_z := 0)
      rw [f1_z] at this
      rw [show 37 + 4 * i_z = 37 + 4 * i_z + 0 from rfl, this]
      rfl)
    refine C_Fr (r := c + (37 + 4 * i_z)) (by have := h1.sz l1; omega) (by omega) kk (by omega) (by rw [h1.2.1]; omega) (fun M2_z a2 => ?_)
    have h2 := h1.al (j_z := 37 + 4 * i_z) l1 a2
    have h3 : Hp c (frL (i_z + 1)) (4635 + 30 * (i_z + 1)) M0 (uR M2_z (c + 16) (i_z : Int) (c + (37 + 4 * i_z))) := by
      refine (h2.setR (i_z := 16) (o := 37 + 4 * i_z) ?_ rfl rfl (by omega)).cast rfl ?_
      · unfold alL
        rw [List.length_append, List.length_set, l1]
        omega
      · show 4635 + 30 * i_z + 8 + 22 = _
        omega
    have go_z := ih_z (i_z + 1) (by omega) _ h3
    rw [show ((i_z + 1 : Nat) : Int) = (i_z : Int) + 1 from by omega] at go_z
    have len2 : 16 < (alL (frL i_z ++ [(8, 0, [], [])]) (37 + 4 * i_z) [(0, 101, 16), (1, 100, 3), (2, 100, 3)]).length := by
      unfold alL
      rw [List.length_append, List.length_set, l1]
      omega
    have s16 : (sp (alL (frL i_z ++ [(8, 0, [], [])]) (37 + 4 * i_z) [(0, 101, 16), (1, 100, 3), (2, 100, 3)]) 16).1 = 117 ∧ (sp (alL (frL i_z ++ [(8, 0, [], [])]) (37 + 4 * i_z) [(0, 101, 16), (1, 100, 3), (2, 100, 3)]) 16).2.1 = 5 := by
      have e_z : sp (alL (frL i_z ++ [(8, 0, [], [])]) (37 + 4 * i_z) [(0, 101, 16), (1, 100, 3), (2, 100, 3)]) 16 = sp (frL i_z) 16 := by
        unfold alL
        rw [sp_left (by rw [List.length_set, l1]; omega), sp_set (by rw [l1]; omega), if_neg (by omega), sp_left (by omega)]
      rw [e_z]
      exact ⟨f3_z, f4_z⟩
    have k2_z := h2.kd (i_z := 16) (a_z := c + 16) rfl len2 s16.1
    have n2_z := h2.ln (i_z := 16) (a_z := c + 16) rfl len2 s16.2
    have ko : gK M2_z (c + (37 + 4 * i_z)) = 8 := by
      rw [(a2.2.2.2.1 _ (Nat.le_refl _)).1]
      exact kk
    simp only [Option.toList_some, Option.toList_none, List.cons_append, List.nil_append, List.append_nil]
    rw [B_5_109, k2_z, n2_z, ko]
    exact ⟨⟨by decide, by decide⟩, by omega, by omega, Or.inr rfl, ⟨by omega, by omega⟩, go_z⟩
theorem T_graphics (hc_z : c = G.1 + 1) (hQ : ∀ N_z, Hp c (grL 35) (4785 + 16 * 35) M0 N_z → At G 5 146 [a_r (c + 15), a_i 35] [] N_z Q) : ∀ (d_z i_z : Nat), i_z + d_z = 35 → ∀ M, Hp c (grL i_z) (4785 + 16 * i_z) M0 M → At G 5 118 [a_r (c + 15), a_i (i_z : Int)] [] M Q := by
  intro d_z
  induction d_z with
  | zero =>
    intro i_z hi_z M h_z
    have e_z : i_z = 35 := by omega
    subst e_z
    obtain ⟨f1_z, f2_z, f3_z, f4_z, f5_z⟩ := gr_fact 35 (by decide)
    have r0 := h_z.rf (i_z := 15) (a_z := c + 15) rfl (by omega) f5_z (by decide)
    rw [B_5_118, r0, h_z.kd (i_z := 17) rfl (by omega) f3_z, h_z.ln (i_z := 17) rfl (by omega) f4_z]
    exact ⟨h_z.kd (i_z := 15) rfl (by omega) f2_z, by decide, fun _ => hQ M h_z, fun w_z => absurd (Int.le_refl _) w_z⟩
  | succ d_z ih_z =>
    intro i_z hi_z M h_z
    obtain ⟨f1_z, f2_z, f3_z, f4_z, f5_z⟩ := gr_fact i_z (by omega)
    have r0 := h_z.rf (i_z := 15) (a_z := c + 15) rfl (by omega) f5_z (by decide)
    have k16 := h_z.kd (i_z := 17) (a_z := c + 17) rfl (by omega) f3_z
    have n16 := h_z.ln (i_z := 17) (a_z := c + 17) rfl (by omega) f4_z
    rw [B_5_118, r0, k16, n16]
    refine ⟨h_z.kd (i_z := 15) rfl (by omega) f2_z, by decide, fun w_z => absurd w_z (by omega), fun _ => ⟨h_z.kd (i_z := 15) rfl (by omega) f2_z, h_z.rm hc_z (by omega) (by omega), nK_at rfl, ?_⟩⟩
    have hs := h_z.sz f1_z
    rw [hs]
    have h1 : Hp c (grL i_z ++ [(9, 0, [], [])]) (4785 + 16 * i_z + 4) M0 (uN M 9 0 4) := h_z.new
    generalize uN M 9 0 4 = M1_z at h1 ⊢
    have l1 : (grL i_z ++ [((9, 0, [], []) : Sp)]).length = 57 + 3 * i_z + 1 := by rw [List.length_append, f1_z]; rfl
    have kk : gK M1_z (c + (57 + 3 * i_z)) = 9 := h1.kd (i_z := 57 + 3 * i_z) rfl (by omega) (by
      have := sp_right (l := grL i_z) (k_z := [((9, 0, [], []) : Sp)]) (i_z := 0)
      rw [f1_z] at this
      rw [show 57 + 3 * i_z = 57 + 3 * i_z + 0 from rfl, this]
      rfl)
    refine C_Gr (r := c + (57 + 3 * i_z)) (by have := h1.sz l1; omega) (by omega) kk (by omega) (by rw [h1.2.1]; omega) (fun M2_z a2 => ?_)
    have h2 := h1.al (j_z := 57 + 3 * i_z) l1 a2
    have h3 : Hp c (grL (i_z + 1)) (4785 + 16 * (i_z + 1)) M0 (uR M2_z (c + 17) (i_z : Int) (c + (57 + 3 * i_z))) := by
      refine (h2.setR (i_z := 17) (o := 57 + 3 * i_z) ?_ rfl rfl (by omega)).cast rfl ?_
      · unfold alL
        rw [List.length_append, List.length_set, l1]
        omega
      · show 4785 + 16 * i_z + 4 + 12 = _
        omega
    have go_z := ih_z (i_z + 1) (by omega) _ h3
    rw [show ((i_z + 1 : Nat) : Int) = (i_z : Int) + 1 from by omega] at go_z
    have len2 : 17 < (alL (grL i_z ++ [(9, 0, [], [])]) (57 + 3 * i_z) [(0, 101, 6), (1, 100, 6)]).length := by
      unfold alL
      rw [List.length_append, List.length_set, l1]
      omega
    have s17 : (sp (alL (grL i_z ++ [(9, 0, [], [])]) (57 + 3 * i_z) [(0, 101, 6), (1, 100, 6)]) 17).1 = 118 ∧ (sp (alL (grL i_z ++ [(9, 0, [], [])]) (57 + 3 * i_z) [(0, 101, 6), (1, 100, 6)]) 17).2.1 = 35 := by
      have e_z : sp (alL (grL i_z ++ [(9, 0, [], [])]) (57 + 3 * i_z) [(0, 101, 6), (1, 100, 6)]) 17 = sp (grL i_z) 17 := by
        unfold alL
        rw [sp_left (by rw [List.length_set, l1]; omega), sp_set (by rw [l1]; omega), if_neg (by omega), sp_left (by omega)]
      rw [e_z]
      exact ⟨f3_z, f4_z⟩
    have k2_z := h2.kd (i_z := 17) (a_z := c + 17) rfl len2 s17.1
    have n2_z := h2.ln (i_z := 17) (a_z := c + 17) rfl len2 s17.2
    have ko : gK M2_z (c + (57 + 3 * i_z)) = 9 := by
      rw [(a2.2.2.2.1 _ (Nat.le_refl _)).1]
      exact kk
    simp only [Option.toList_some, Option.toList_none, List.cons_append, List.nil_append, List.append_nil]
    rw [B_5_139, k2_z, n2_z, ko]
    exact ⟨⟨by decide, by decide⟩, by omega, by omega, Or.inr rfl, ⟨by omega, by omega⟩, go_z⟩
theorem T_Ma (h_z : Hp c hl15 802 M0 M) (hc_z : c = G.1 + 1) (hQ : ∀ N_z, Hp c (grL 35) 5345 M0 N_z → Q none N_z) : Call G J_Ma_init [a_r (c + 15)] M Q := by
  refine T_Ma0 h_z hc_z (fun N1 h1 => ?_)
  refine T_frames (M0 := M0) hc_z (fun N2 h2 => ?_) 5 0 rfl N1 h1
  rw [B_5_116]
  refine T_graphics (M0 := M0) hc_z (fun N3 h3 => ?_) 35 0 rfl N2 h2
  rw [B_5_146]
  exact hQ _ h3
theorem T_states (hc_z : c = G.1 + 1) (hQ : ∀ N_z, Hp c (saL 6) 5945 M0 N_z → Q none N_z) : ∀ (d_z i_z : Nat), i_z + d_z = 6 → ∀ M, Hp c (saL i_z) (5345 + 100 * i_z) M0 M → At G 1 48 [a_r c, a_i (i_z : Int)] [] M Q := by
  intro d_z
  induction d_z with
  | zero =>
    intro i_z hi_z M h_z
    have e_z : i_z = 6 := by omega
    subst e_z
    rw [B_1_48]
    refine ⟨fun _ => ?_, fun w_z => absurd (Int.le_refl _) w_z⟩
    rw [B_1_73]
    exact hQ M h_z
  | succ d_z ih_z =>
    intro i_z hi_z M h_z
    obtain ⟨f1_z, f2_z, f3_z, f4_z, f5_z⟩ := sa_fact i_z (by omega)
    have r0 := h_z.rf (i_z := 0) (a_z := c) (f_z := 2) rfl (by omega) f5_z (by decide)
    have k0_z := h_z.kd (i_z := 0) (a_z := c) rfl (by omega) f2_z
    rw [B_1_48]
    refine ⟨fun w_z => absurd w_z (by omega), fun _ => ⟨k0_z, h_z.rm hc_z (by omega) (by omega), nK_at rfl, ?_⟩⟩
    rw [h_z.sz f1_z, r0]
    have h1 : Hp c (saL i_z ++ [(4, 0, [], [])]) (5345 + 100 * i_z + 7) M0 (uN M 4 0 7) := h_z.new
    generalize uN M 4 0 7 = M1_z at h1 ⊢
    have l1 : (saL i_z ++ [((4, 0, [], []) : Sp)]).length = 162 + 5 * i_z + 1 := by rw [List.length_append, f1_z]; rfl
    have kk : gK M1_z (c + (162 + 5 * i_z)) = 4 := h1.kd (i_z := 162 + 5 * i_z) rfl (by omega) (by
      have := sp_right (l := saL i_z) (k_z := [((4, 0, [], []) : Sp)]) (i_z := 0)
      rw [f1_z] at this
      rw [show 162 + 5 * i_z = 162 + 5 * i_z + 0 from rfl, this]
      rfl)
    refine C_Sa (r := c + (162 + 5 * i_z)) (by have := h1.sz l1; omega) (by omega) kk (by omega) (by rw [h1.2.1]; omega) (fun M2_z a2 => ?_)
    have h2 := h1.al (j_z := 162 + 5 * i_z) l1 a2
    have len2 : (alL (saL i_z ++ [(4, 0, [], [])]) (162 + 5 * i_z) [(0, 119, 7), (1, 102, 6), (2, 100, 24), (3, 100, 56)]).length = 162 + 5 * i_z + 1 + 4 := by
      unfold alL
      rw [List.length_append, List.length_set, l1]
      rfl
    have h3 := ((h2.setI (i_z := 162 + 5 * i_z) (f_z := 4) (v_z := 12) (by omega) rfl).setI (i_z := 162 + 5 * i_z) (f_z := 5) (v_z := 12) (by unfold stI; rw [List.length_set]; omega) rfl).setI (i_z := 162 + 5 * i_z) (f_z := 6) (v_z := 120) (by unfold stI; rw [List.length_set, List.length_set]; omega) rfl
    have len3 : (stI (stI (stI (alL (saL i_z ++ [(4, 0, [], [])]) (162 + 5 * i_z) [(0, 119, 7), (1, 102, 6), (2, 100, 24), (3, 100, 56)]) (162 + 5 * i_z) 4 12) (162 + 5 * i_z) 5 12) (162 + 5 * i_z) 6 120).length = 162 + 5 * i_z + 1 + 4 := by
      unfold stI
      rw [List.length_set, List.length_set, List.length_set]
      exact len2
    have s14 : sp (stI (stI (stI (alL (saL i_z ++ [(4, 0, [], [])]) (162 + 5 * i_z) [(0, 119, 7), (1, 102, 6), (2, 100, 24), (3, 100, 56)]) (162 + 5 * i_z) 4 12) (162 + 5 * i_z) 5 12) (162 + 5 * i_z) 6 120) 14 = sp (saL i_z) 14 := by
      unfold stI
      rw [sp_set (by rw [List.length_set, List.length_set]; omega), if_neg (by omega), sp_set (by rw [List.length_set]; omega), if_neg (by omega), sp_set (by omega), if_neg (by omega)]
      unfold alL
      rw [sp_left (by rw [List.length_set, l1]; omega), sp_set (by rw [l1]; omega), if_neg (by omega), sp_left (by omega)]
    have k3_z := h3.kd (v_z := 113) (i_z := 14) (a_z := c + 14) rfl (by omega) (by rw [s14]; exact f3_z)
    have n3_z := h3.ln (v_z := 6) (i_z := 14) (a_z := c + 14) rfl (by omega) (by rw [s14]; exact f4_z)
    have ko : gK (uI (uI (uI M2_z (c + (162 + 5 * i_z)) 4 12) (c + (162 + 5 * i_z)) 5 12) (c + (162 + 5 * i_z)) 6 120) (c + (162 + 5 * i_z)) = 4 := by
      show gK M2_z _ = 4
      rw [(a2.2.2.2.1 _ (Nat.le_refl _)).1]
      exact kk
    have h4 : Hp c (saL (i_z + 1)) (5345 + 100 * (i_z + 1)) M0 (uR (uI (uI (uI M2_z (c + (162 + 5 * i_z)) 4 12) (c + (162 + 5 * i_z)) 5 12) (c + (162 + 5 * i_z)) 6 120) (c + 14) (i_z : Int) (c + (162 + 5 * i_z))) := by
      refine (h3.setR (i_z := 14) (o := 162 + 5 * i_z) (by omega) rfl rfl (by omega)).cast rfl ?_
      show 5345 + 100 * i_z + 7 + 93 = _
      omega
    have go_z := ih_z (i_z + 1) (by omega) _ h4
    rw [show ((i_z + 1 : Nat) : Int) = (i_z : Int) + 1 from by omega] at go_z
    simp only [Option.toList_some, Option.toList_none, List.cons_append, List.nil_append, List.append_nil]
    rw [B_1_66, k3_z, n3_z, ko]
    exact ⟨⟨by decide, by decide⟩, by omega, by omega, Or.inr rfl, ⟨by omega, by omega⟩, go_z⟩
theorem T_X (h_z : Hp c hl0 5 M0 M) (hc_z : c = G.1 + 1) (hQ : ∀ N_z, Hp c (saL 6) 5945 M0 N_z → Q none N_z) : Call G J_X_init [a_r c] M Q := by
  refine T_XA h_z hc_z (fun N1 h1 => ?_)
  rw [B_1_39]
  refine ⟨h1.kd (i_z := 15) rfl (by decide +kernel) (by decide +kernel), T_Ma h1 hc_z (fun N2 h2 => ?_)⟩
  simp only [Option.toList_some, Option.toList_none, List.cons_append, List.nil_append, List.append_nil]
  rw [B_1_43]
  obtain ⟨f1_z, -⟩ := gr_fact 35 (by decide)
  have h3 : Hp c (saL 0) (5345 + 100 * 0) M0 (uR N2 c 3 (c + 15)) := (h2.setR (i_z := 0) (o := 15) (by omega) rfl rfl (by decide)).cast rfl rfl
  exact ⟨h2.kd (i_z := 0) rfl (by omega) (by decide +kernel), T_states hc_z hQ 6 0 rfl _ h3⟩
end MK
