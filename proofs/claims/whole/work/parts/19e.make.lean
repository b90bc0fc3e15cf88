/-! THE PURE PART, part 19: the making of X. Own work (written by a program of its own). -/
theorem Hp.cast {c s_z s2_z : Nat} {l l2 : List Sp} {M0 M : Mem} (h_z : Hp c l s_z M0 M) (hl : l = l2) (hs : s_z = s2_z) : Hp c l2 s2_z M0 M := by
  subst hl
  subst hs
  exact h_z
def hl0 : List Sp := [(1, 0, [], [])]
def hl1 : List Sp := hl0 ++ [(2, 0, [], [])]
def hl2 : List Sp := alL hl1 1 [(0, 100, 160), (1, 150, 160), (2, 101, 160), (3, 100, 160)]
def hl3 : List Sp := hl2 ++ [(3, 0, [], [])]
def hl4 : List Sp := alL hl3 6 [(0, 150, 9), (1, 100, 9)]
def hl5 : List Sp := stR hl4 1 4 6
def hl6 : List Sp := stR hl5 0 0 1
def hl7 : List Sp := hl6 ++ [(4, 0, [], [])]
def hl8 : List Sp := alL hl7 9 [(0, 119, 7), (1, 102, 6), (2, 100, 24), (3, 100, 56)]
def hl9 : List Sp := stI hl8 9 4 12
def hl10 : List Sp := stI hl9 9 5 12
def hl11 : List Sp := stI hl10 9 6 120
def hl12 : List Sp := stR hl11 0 1 9
def hl13 : List Sp := hl12 ++ [(113, 6, [], [])]
def hl14 : List Sp := stR hl13 0 2 14
def hl15 : List Sp := hl14 ++ [(5, 0, [], [])]
def hl16 : List Sp := alL hl15 15 [(0, 117, 5), (1, 118, 35)]
def hl17 : List Sp := hl16 ++ [(6, 0, [], [])]
def hl18 : List Sp := alL hl17 18 [(0, 100, 800), (1, 100, 800), (2, 102, 800), (3, 100, 201), (4, 102, 201)]
def hl19 : List Sp := stR hl18 15 2 18
def hl20 : List Sp := hl19 ++ [(7, 0, [], [])]
def hl21 : List Sp := alL hl20 24 [(1, 100, 30), (2, 102, 30), (3, 100, 30), (4, 100, 30), (5, 100, 30), (6, 100, 30), (7, 100, 180)]
def hl22 : List Sp := stR hl21 24 0 18
def hl23 : List Sp := stR hl22 15 3 24
def hl24 : List Sp := hl23 ++ [(100, 200, [], [])]
def hl25 : List Sp := stR hl24 15 4 32
def hl26 : List Sp := hl25 ++ [(100, 200, [], [])]
def hl27 : List Sp := stR hl26 15 5 33
def hl28 : List Sp := hl27 ++ [(100, 200, [], [])]
def hl29 : List Sp := stR hl28 15 6 34
def hl30 : List Sp := hl29 ++ [(101, 6, [], [])]
def hl31 : List Sp := stR hl30 15 7 35
def hl32 : List Sp := hl31 ++ [(100, 8, [], [])]
def hl33 : List Sp := stR hl32 15 8 36
def frL : Nat → List Sp
  | 0 => hl33
  | i_z + 1 => stR (alL (frL i_z ++ [(8, 0, [], [])]) (37 + 4 * i_z) [(0, 101, 16), (1, 100, 3), (2, 100, 3)]) 16 (i_z : Int) (37 + 4 * i_z)
def grL : Nat → List Sp
  | 0 => frL 5
  | i_z + 1 => stR (alL (grL i_z ++ [(9, 0, [], [])]) (57 + 3 * i_z) [(0, 101, 6), (1, 100, 6)]) 17 (i_z : Int) (57 + 3 * i_z)
def saL : Nat → List Sp
  | 0 => stR (grL 35) 0 3 15
  | i_z + 1 => stR (stI (stI (stI (alL (saL i_z ++ [(4, 0, [], [])]) (162 + 5 * i_z) [(0, 119, 7), (1, 102, 6), (2, 100, 24), (3, 100, 56)]) (162 + 5 * i_z) 4 12) (162 + 5 * i_z) 5 12) (162 + 5 * i_z) 6 120) 14 (i_z : Int) (162 + 5 * i_z)
def pay : Nat → Nat → Nat → Nat
  | s_z, _, 0 => s_z
  | s_z, w_z, i_z + 1 => pay s_z w_z i_z + w_z
section MK
variable {G : Env0} {Q : Option AV → Mem → Prop} {M M0 : Mem} {c : Nat}
theorem T_Rd (h_z : Hp c hl1 12 M0 M) (hc_z : c = G.1 + 1) (hQ : ∀ N_z, Hp c hl5 678 M0 N_z → Q none N_z) : Call G J_Rd_init [a_r (c + 1)] M Q := by
  refine C_Rd0 (r := c + 1) (by have := h_z.sz (n_z := 2) (by decide +kernel); omega) (by omega) (h_z.kd (i_z := 1) rfl (by decide +kernel) (by decide +kernel)) (by omega) (by rw [h_z.2.1]; decide) (fun N1 a1_z => ?_)
  have g1 : Hp c hl2 652 M0 N1 := (h_z.al (j_z := 1) (by decide +kernel) a1_z).cast rfl (by decide)
  rw [B_2_41]
  refine ⟨g1.rm hc_z (by decide +kernel) (by decide +kernel), nK_at rfl, ?_⟩
  rw [g1.sz (n_z := 6) (by decide +kernel)]
  have g2 : Hp c hl3 660 M0 (uN N1 3 0 8) := g1.new.cast rfl (by decide)
  generalize uN N1 3 0 8 = N2 at g2 ⊢
  refine C_St (r := c + 6) (by have := g2.sz (n_z := 7) (by decide +kernel); omega) (by omega) (g2.kd (i_z := 6) rfl (by decide +kernel) (by decide +kernel)) (by omega) (by rw [g2.2.1]; decide) (fun N3 a3 => ?_)
  have g3_z : Hp c hl4 678 M0 N3 := (g2.al (j_z := 6) (by decide +kernel) a3).cast rfl (by decide)
  simp only [Option.toList_some, Option.toList_none, List.cons_append, List.nil_append, List.append_nil]
  rw [B_2_49]
  refine ⟨g3_z.kd (i_z := 1) rfl (by decide +kernel) (by decide +kernel), ?_⟩
  have g4 : Hp c hl5 678 M0 (uR N3 (c + 1) 4 (c + 6)) := (g3_z.setR (i_z := 1) (o := 6) (by decide +kernel) rfl rfl (by decide)).cast rfl rfl
  generalize uR N3 (c + 1) 4 (c + 6) = N4_z at g4 ⊢
  exact hQ _ g4
theorem T_XA (h_z : Hp c hl0 5 M0 M) (hc_z : c = G.1 + 1) (hQ : ∀ N_z, Hp c hl15 802 M0 N_z → At G 1 39 [a_r c, a_u] [a_r (c + 15), a_r c] N_z Q) : Call G J_X_init [a_r c] M Q := by
  rw [E_X_init, B_1_0]
  refine ⟨by omega, h_z.rm hc_z (by decide) (by decide), nK_at rfl, ?_⟩
  rw [h_z.sz (n_z := 1) rfl]
  have g0 : Hp c hl1 12 M0 (uN M 2 0 7) := h_z.new.cast rfl (by decide)
  generalize uN M 2 0 7 = N0 at g0 ⊢
  refine T_Rd g0 hc_z (fun N5 g5_z => ?_)
  simp only [Option.toList_some, Option.toList_none, List.cons_append, List.nil_append, List.append_nil]
  rw [B_1_12]
  refine ⟨g5_z.kd (i_z := 0) rfl (by decide +kernel) (by decide +kernel), ?_⟩
  have g6 : Hp c hl6 678 M0 (uR N5 c 0 (c + 1)) := (g5_z.setR (i_z := 0) (o := 1) (by decide +kernel) rfl rfl (by decide)).cast rfl rfl
  generalize uR N5 c 0 (c + 1) = N6 at g6 ⊢
  refine ⟨g6.rm hc_z (by decide +kernel) (by decide +kernel), ?_⟩
  rw [g6.sz (n_z := 9) (by decide +kernel)]
  have g7 : Hp c hl7 685 M0 (uN N6 4 0 7) := g6.new.cast rfl (by decide)
  generalize uN N6 4 0 7 = N7 at g7 ⊢
  rw [B_1_19]
  refine ⟨g7.kd (i_z := 9) rfl (by decide +kernel) (by decide +kernel), ?_⟩
  refine C_Sa (r := c + 9) (by have := g7.sz (n_z := 10) (by decide +kernel); omega) (by omega) (g7.kd (i_z := 9) rfl (by decide +kernel) (by decide +kernel)) (by omega) (by rw [g7.2.1]; decide) (fun N8 a8 => ?_)
  have g8 : Hp c hl8 778 M0 N8 := (g7.al (j_z := 9) (by decide +kernel) a8).cast rfl (by decide)
  have g9 : Hp c hl11 778 M0 (uI (uI (uI N8 (c + 9) 4 12) (c + 9) 5 12) (c + 9) 6 120) := (((g8.setI (i_z := 9) (f_z := 4) (v_z := 12) (by decide +kernel) rfl).setI (i_z := 9) (f_z := 5) (v_z := 12) (by decide +kernel) rfl).setI (i_z := 9) (f_z := 6) (v_z := 120) (by decide +kernel) rfl).cast rfl rfl
  generalize uI (uI (uI N8 (c + 9) 4 12) (c + 9) 5 12) (c + 9) 6 120 = N9 at g9 ⊢
  simp only [Option.toList_some, Option.toList_none, List.cons_append, List.nil_append, List.append_nil]
  rw [B_1_23]
  refine ⟨g9.kd (i_z := 0) rfl (by decide +kernel) (by decide +kernel), ⟨by decide, by decide⟩, ?_⟩
  have g10 : Hp c hl12 778 M0 (uR N9 c 1 (c + 9)) := (g9.setR (i_z := 0) (o := 9) (by decide +kernel) rfl rfl (by decide)).cast rfl rfl
  generalize uR N9 c 1 (c + 9) = N10 at g10 ⊢
  refine ⟨g10.rm hc_z (by decide +kernel) (by decide +kernel), ?_⟩
  rw [g10.sz (n_z := 14) (by decide +kernel)]
  have g11 : Hp c hl13 784 M0 (uN N10 113 6 (Int.toNat 6)) := g10.new.cast rfl (by decide)
  generalize uN N10 113 6 (Int.toNat 6) = N11 at g11 ⊢
  rw [B_1_32]
  refine ⟨g11.kd (i_z := 0) rfl (by decide +kernel) (by decide +kernel), ?_⟩
  have g12 : Hp c hl14 784 M0 (uR N11 c 2 (c + 14)) := (g11.setR (i_z := 0) (o := 14) (by decide +kernel) rfl rfl (by decide)).cast rfl rfl
  generalize uR N11 c 2 (c + 14) = N12 at g12 ⊢
  refine ⟨g12.rm hc_z (by decide +kernel) (by decide +kernel), ?_⟩
  rw [g12.sz (n_z := 15) (by decide +kernel)]
  have g13 : Hp c hl15 802 M0 (uN N12 5 0 18) := g12.new.cast rfl (by decide)
  generalize uN N12 5 0 18 = N13 at g13 ⊢
  exact hQ _ g13
theorem T_Ma0 (h_z : Hp c hl15 802 M0 M) (hc_z : c = G.1 + 1) (hQ : ∀ N_z, Hp c hl33 4635 M0 N_z → At G 5 92 [a_r (c + 15), a_i 0] [] N_z Q) : Call G J_Ma_init [a_r (c + 15)] M Q := by
  have a0_z : Al (c + 15) [] M M := Al.nil (by have := h_z.sz (n_z := 16) (by decide +kernel); omega)
  have hk : gK M (c + 15) = 5 := h_z.kd (i_z := 15) rfl (by decide +kernel) (by decide +kernel)
  have rm1 : c + 15 + 40 ≤ G.1 + 600000 := by omega
  have rm2 : gs M + 40 ≤ 7302249 := by rw [h_z.2.1]; decide
  rw [E_Ma_init, B_5_0]
  refine ⟨by omega, ⟨by decide, by decide⟩, a0_z.rm rm1 rm2 (by decide) (by decide), a0_z.kd hk, ?_⟩
  refine Al.go (P_z := fun N_z => At G 5 12 [a_r (c + 15), a_u] [] N_z Q) a0_z (by decide) (fun N1 a1_z => ?_)
  have a1_z : Al (c + 15) [(0, 117, 5)] M N1 := a1_z
  rw [B_5_12]
  refine ⟨⟨by decide, by decide⟩, a1_z.rm rm1 rm2 (by decide) (by decide), a1_z.kd hk, ?_⟩
  refine Al.go (P_z := fun N_z => At G 5 21 [a_r (c + 15), a_u] [] N_z Q) a1_z (by decide) (fun N2 a2 => ?_)
  have a2 : Al (c + 15) [(0, 117, 5), (1, 118, 35)] M N2 := a2
  have g14 : Hp c hl16 842 M0 N2 := (h_z.al (j_z := 15) (by decide +kernel) a2).cast rfl (by decide)
  generalize N2 = N14 at g14 ⊢
  rw [B_5_21]
  refine ⟨g14.rm hc_z (by decide +kernel) (by decide +kernel), nK_at rfl, ?_⟩
  rw [g14.sz (n_z := 18) (by decide +kernel)]
  have g15 : Hp c hl17 850 M0 (uN N14 6 0 8) := g14.new.cast rfl (by decide)
  generalize uN N14 6 0 8 = N15 at g15 ⊢
  refine C_Pa (r := c + 18) (by have := g15.sz (n_z := 19) (by decide +kernel); omega) (by omega) (g15.kd (i_z := 18) rfl (by decide +kernel) (by decide +kernel)) (by omega) (by rw [g15.2.1]; decide) (fun N16 a16 => ?_)
  have g16 : Hp c hl18 3652 M0 N16 := (g15.al (j_z := 18) (by decide +kernel) a16).cast rfl (by decide)
  simp only [Option.toList_some, Option.toList_none, List.cons_append, List.nil_append, List.append_nil]
  rw [B_5_29]
  refine ⟨g16.kd (i_z := 15) rfl (by decide +kernel) (by decide +kernel), ?_⟩
  have g17 : Hp c hl19 3652 M0 (uR N16 (c + 15) 2 (c + 18)) := (g16.setR (i_z := 15) (o := 18) (by decide +kernel) rfl rfl (by decide)).cast rfl rfl
  generalize uR N16 (c + 15) 2 (c + 18) = N17 at g17 ⊢
  refine ⟨g17.rm hc_z (by decide +kernel) (by decide +kernel), ?_⟩
  rw [g17.sz (n_z := 24) (by decide +kernel)]
  have g18 : Hp c hl20 3661 M0 (uN N17 7 0 9) := g17.new.cast rfl (by decide)
  generalize uN N17 7 0 9 = N18 at g18 ⊢
  rw [B_5_36]
  refine ⟨g18.kd (i_z := 15) rfl (by decide +kernel) (by decide +kernel), g18.kd (i_z := 24) rfl (by decide +kernel) (by decide +kernel), ?_⟩
  rw [g18.rf (i_z := 15) (o := 18) rfl (by decide +kernel) (by decide +kernel) (by decide)]
  refine C_It (r := c + 24) (by have := g18.sz (n_z := 25) (by decide +kernel); omega) (by omega) (g18.kd (i_z := 24) rfl (by decide +kernel) (by decide +kernel)) (by omega) (by rw [g18.2.1]; decide) (fun N19 a19 => ?_)
  have g19 : Hp c hl21 4021 M0 N19 := (g18.al (j_z := 24) (by decide +kernel) a19).cast rfl (by decide)
  have g20 : Hp c hl22 4021 M0 (uR N19 (c + 24) 0 (c + 18)) := (g19.setR (i_z := 24) (o := 18) (by decide +kernel) rfl rfl (by decide)).cast rfl rfl
  generalize uR N19 (c + 24) 0 (c + 18) = N20 at g20 ⊢
  simp only [Option.toList_some, Option.toList_none, List.cons_append, List.nil_append, List.append_nil]
  rw [B_5_44]
  refine ⟨g20.kd (i_z := 15) rfl (by decide +kernel) (by decide +kernel), ⟨by decide, by decide⟩, ?_⟩
  have g21 : Hp c hl23 4021 M0 (uR N20 (c + 15) 3 (c + 24)) := (g20.setR (i_z := 15) (o := 24) (by decide +kernel) rfl rfl (by decide)).cast rfl rfl
  generalize uR N20 (c + 15) 3 (c + 24) = N21 at g21 ⊢
  refine ⟨g21.rm hc_z (by decide +kernel) (by decide +kernel), ?_⟩
  rw [g21.sz (n_z := 32) (by decide +kernel)]
  have g22 : Hp c hl24 4221 M0 (uN N21 100 200 (Int.toNat 200)) := g21.new.cast rfl (by decide)
  generalize uN N21 100 200 (Int.toNat 200) = N22 at g22 ⊢
  rw [B_5_53]
  refine ⟨g22.kd (i_z := 15) rfl (by decide +kernel) (by decide +kernel), ⟨by decide, by decide⟩, ?_⟩
  have g23 : Hp c hl25 4221 M0 (uR N22 (c + 15) 4 (c + 32)) := (g22.setR (i_z := 15) (o := 32) (by decide +kernel) rfl rfl (by decide)).cast rfl rfl
  generalize uR N22 (c + 15) 4 (c + 32) = N23 at g23 ⊢
  refine ⟨g23.rm hc_z (by decide +kernel) (by decide +kernel), ?_⟩
  rw [g23.sz (n_z := 33) (by decide +kernel)]
  have g24 : Hp c hl26 4421 M0 (uN N23 100 200 (Int.toNat 200)) := g23.new.cast rfl (by decide)
  generalize uN N23 100 200 (Int.toNat 200) = N24 at g24 ⊢
  rw [B_5_62]
  refine ⟨g24.kd (i_z := 15) rfl (by decide +kernel) (by decide +kernel), ⟨by decide, by decide⟩, ?_⟩
  have g25 : Hp c hl27 4421 M0 (uR N24 (c + 15) 5 (c + 33)) := (g24.setR (i_z := 15) (o := 33) (by decide +kernel) rfl rfl (by decide)).cast rfl rfl
  generalize uR N24 (c + 15) 5 (c + 33) = N25 at g25 ⊢
  refine ⟨g25.rm hc_z (by decide +kernel) (by decide +kernel), ?_⟩
  rw [g25.sz (n_z := 34) (by decide +kernel)]
  have g26 : Hp c hl28 4621 M0 (uN N25 100 200 (Int.toNat 200)) := g25.new.cast rfl (by decide)
  generalize uN N25 100 200 (Int.toNat 200) = N26 at g26 ⊢
  rw [B_5_71]
  refine ⟨g26.kd (i_z := 15) rfl (by decide +kernel) (by decide +kernel), ⟨by decide, by decide⟩, ?_⟩
  have g27 : Hp c hl29 4621 M0 (uR N26 (c + 15) 6 (c + 34)) := (g26.setR (i_z := 15) (o := 34) (by decide +kernel) rfl rfl (by decide)).cast rfl rfl
  generalize uR N26 (c + 15) 6 (c + 34) = N27 at g27 ⊢
  refine ⟨g27.rm hc_z (by decide +kernel) (by decide +kernel), ?_⟩
  rw [g27.sz (n_z := 35) (by decide +kernel)]
  have g28 : Hp c hl30 4627 M0 (uN N27 101 6 (Int.toNat 6)) := g27.new.cast rfl (by decide)
  generalize uN N27 101 6 (Int.toNat 6) = N28 at g28 ⊢
  rw [B_5_79]
  refine ⟨g28.kd (i_z := 15) rfl (by decide +kernel) (by decide +kernel), ⟨by decide, by decide⟩, ?_⟩
  have g29 : Hp c hl31 4627 M0 (uR N28 (c + 15) 7 (c + 35)) := (g28.setR (i_z := 15) (o := 35) (by decide +kernel) rfl rfl (by decide)).cast rfl rfl
  generalize uR N28 (c + 15) 7 (c + 35) = N29 at g29 ⊢
  refine ⟨g29.rm hc_z (by decide +kernel) (by decide +kernel), ?_⟩
  rw [g29.sz (n_z := 36) (by decide +kernel)]
  have g30 : Hp c hl32 4635 M0 (uN N29 100 8 (Int.toNat 8)) := g29.new.cast rfl (by decide)
  generalize uN N29 100 8 (Int.toNat 8) = N30 at g30 ⊢
  rw [B_5_87]
  refine ⟨g30.kd (i_z := 15) rfl (by decide +kernel) (by decide +kernel), ?_⟩
  have g31 : Hp c hl33 4635 M0 (uR N30 (c + 15) 8 (c + 36)) := (g30.setR (i_z := 15) (o := 36) (by decide +kernel) rfl rfl (by decide)).cast rfl rfl
  generalize uR N30 (c + 15) 8 (c + 36) = N31 at g31 ⊢
  exact hQ _ g31
theorem fr_fact : ∀ i_z, i_z ≤ 5 → (frL i_z).length = 37 + 4 * i_z ∧ (sp (frL i_z) 15).1 = 5 ∧ (sp (frL i_z) 16).1 = 117 ∧ (sp (frL i_z) 16).2.1 = 5 ∧ lkR (sp (frL i_z) 15).2.2.1 0 = 16 := by decide +kernel
theorem gr_fact : ∀ i_z, i_z ≤ 35 → (grL i_z).length = 57 + 3 * i_z ∧ (sp (grL i_z) 15).1 = 5 ∧ (sp (grL i_z) 17).1 = 118 ∧ (sp (grL i_z) 17).2.1 = 35 ∧ lkR (sp (grL i_z) 15).2.2.1 1 = 17 := by decide +kernel
theorem sa_fact : ∀ i_z, i_z ≤ 6 → (saL i_z).length = 162 + 5 * i_z ∧ (sp (saL i_z) 0).1 = 1 ∧ (sp (saL i_z) 14).1 = 113 ∧ (sp (saL i_z) 14).2.1 = 6 ∧ lkR (sp (saL i_z) 0).2.2.1 2 = 14 := by decide +kernel
theorem T_frames (hc_z : c = G.1 + 1) (hQ : ∀ N_z, Hp c (frL 5) (4635 + 30 * 5) M0 N_z → At G 5 120 [a_r (c + 15), a_i 5] [] N_z Q) : ∀ (d_z i_z : Nat), i_z + d_z = 5 → ∀ M, Hp c (frL i_z) (4635 + 30 * i_z) M0 M → At G 5 92 [a_r (c + 15), a_i (i_z : Int)] [] M Q := by
  intro d_z
  induction d_z with
  | zero =>
    intro i_z hi_z M h_z
    have e_z : i_z = 5 := by omega
    subst e_z
    obtain ⟨f1_z, f2_z, f3_z, f4_z, f5_z⟩ := fr_fact 5 (by decide)
    have r0 := h_z.rf (i_z := 15) (a_z := c + 15) rfl (by omega) f5_z (by decide)
    rw [B_5_92, r0, h_z.kd (i_z := 16) rfl (by omega) f3_z, h_z.ln (i_z := 16) rfl (by omega) f4_z]
    exact ⟨h_z.kd (i_z := 15) rfl (by omega) f2_z, by decide, fun _ => hQ M h_z, fun w_z => absurd (Int.le_refl _) w_z⟩
  | succ d_z ih_z =>
    intro i_z hi_z M h_z
    obtain ⟨f1_z, f2_z, f3_z, f4_z, f5_z⟩ := fr_fact i_z (by omega)
    have r0 := h_z.rf (i_z := 15) (a_z := c + 15) rfl (by omega) f5_z (by decide)
    have k16 := h_z.kd (i_z := 16) (a_z := c + 16) rfl (by omega) f3_z
    have n16 := h_z.ln (i_z := 16) (a_z := c + 16) rfl (by omega) f4_z
    rw [B_5_92, r0, k16, n16]
    refine ⟨h_z.kd (i_z := 15) rfl (by omega) f2_z, by decide, fun w_z => absurd w_z (by omega), fun _ => ⟨h_z.kd (i_z := 15) rfl (by omega) f2_z, h_z.rm hc_z (by omega) (by omega), nK_at rfl, ?_⟩⟩
    have hs := h_z.sz f1_z
    rw [hs]
    have h1 : Hp c (frL i_z ++ [(8, 0, [], [])]) (4635 + 30 * i_z + 8) M0 (uN M 8 0 8) := h_z.new
    generalize uN M 8 0 8 = M1_z at h1 ⊢
    have l1 : (frL i_z ++ [((8, 0, [], []) : Sp)]).length = 37 + 4 * i_z + 1 := by rw [List.length_append, f1_z]; rfl
    have kk : gK M1_z (c + (37 + 4 * i_z)) = 8 := h1.kd (i_z := 37 + 4 * i_z) rfl (by omega) (by
      have := sp_right (l := frL i_z) (k_z := [((8, 0, [], []) : Sp)]) (i_z := 0)
      rw [f1_z] at this
      rw [show 37 + 4 * i_z = 37 + 4 * i_z + 0 from rfl, this]
      rfl)
    refine C_Fr (r := c + (37 + 4 * i_z)) (by have := h1.sz l1; omega) (by omega) kk (by omega) (by rw [h1.2.1]; omega) (fun M2_z a2 => ?_)
    have h2 := h1.al (j_z := 37 + 4 * i_z) l1 a2
    have h3 : Hp c (frL (i_z + 1)) (4635 + 30 * (i_z + 1)) M0 (uR M2_z (c + 16) (i_z : Int) (c + (37 + 4 * i_z))) := by
      refine (h2.setR (i_z := 16) (o := 37 + 4 * i_z) ?_ rfl rfl (by omega)).cast rfl ?_
      · unfold alL
        rw [List.length_append, List.length_set, l1]
        omega
      · show 4635 + 30 * i_z + 8 + 22 = _
        omega
    have go_z := ih_z (i_z + 1) (by omega) _ h3
    rw [show ((i_z + 1 : Nat) : Int) = (i_z : Int) + 1 from by omega] at go_z
    have len2 : 16 < (alL (frL i_z ++ [(8, 0, [], [])]) (37 + 4 * i_z) [(0, 101, 16), (1, 100, 3), (2, 100, 3)]).length := by
      unfold alL
      rw [List.length_append, List.length_set, l1]
      omega
    have s16 : (sp (alL (frL i_z ++ [(8, 0, [], [])]) (37 + 4 * i_z) [(0, 101, 16), (1, 100, 3), (2, 100, 3)]) 16).1 = 117 ∧ (sp (alL (frL i_z ++ [(8, 0, [], [])]) (37 + 4 * i_z) [(0, 101, 16), (1, 100, 3), (2, 100, 3)]) 16).2.1 = 5 := by
      have e_z : sp (alL (frL i_z ++ [(8, 0, [], [])]) (37 + 4 * i_z) [(0, 101, 16), (1, 100, 3), (2, 100, 3)]) 16 = sp (frL i_z) 16 := by
        unfold alL
        rw [sp_left (by rw [List.length_set, l1]; omega), sp_set (by rw [l1]; omega), if_neg (by omega), sp_left (by omega)]
      rw [e_z]
      exact ⟨f3_z, f4_z⟩
    have k2_z := h2.kd (i_z := 16) (a_z := c + 16) rfl len2 s16.1
    have n2_z := h2.ln (i_z := 16) (a_z := c + 16) rfl len2 s16.2
    have ko : gK M2_z (c + (37 + 4 * i_z)) = 8 := by
      rw [(a2.2.2.2.1 _ (Nat.le_refl _)).1]
      exact kk
    simp only [Option.toList_some, Option.toList_none, List.cons_append, List.nil_append, List.append_nil]
    rw [B_5_113, k2_z, n2_z, ko]
    exact ⟨⟨by decide, by decide⟩, by omega, by omega, Or.inr rfl, ⟨by omega, by omega⟩, go_z⟩
theorem T_graphics (hc_z : c = G.1 + 1) (hQ : ∀ N_z, Hp c (grL 35) (4785 + 16 * 35) M0 N_z → At G 5 150 [a_r (c + 15), a_i 35] [] N_z Q) : ∀ (d_z i_z : Nat), i_z + d_z = 35 → ∀ M, Hp c (grL i_z) (4785 + 16 * i_z) M0 M → At G 5 122 [a_r (c + 15), a_i (i_z : Int)] [] M Q := by
  intro d_z
  induction d_z with
  | zero =>
    intro i_z hi_z M h_z
    have e_z : i_z = 35 := by omega
    subst e_z
    obtain ⟨f1_z, f2_z, f3_z, f4_z, f5_z⟩ := gr_fact 35 (by decide)
    have r0 := h_z.rf (i_z := 15) (a_z := c + 15) rfl (by omega) f5_z (by decide)
    rw [B_5_122, r0, h_z.kd (i_z := 17) rfl (by omega) f3_z, h_z.ln (i_z := 17) rfl (by omega) f4_z]
    exact ⟨h_z.kd (i_z := 15) rfl (by omega) f2_z, by decide, fun _ => hQ M h_z, fun w_z => absurd (Int.le_refl _) w_z⟩
  | succ d_z ih_z =>
    intro i_z hi_z M h_z
    obtain ⟨f1_z, f2_z, f3_z, f4_z, f5_z⟩ := gr_fact i_z (by omega)
    have r0 := h_z.rf (i_z := 15) (a_z := c + 15) rfl (by omega) f5_z (by decide)
    have k16 := h_z.kd (i_z := 17) (a_z := c + 17) rfl (by omega) f3_z
    have n16 := h_z.ln (i_z := 17) (a_z := c + 17) rfl (by omega) f4_z
    rw [B_5_122, r0, k16, n16]
    refine ⟨h_z.kd (i_z := 15) rfl (by omega) f2_z, by decide, fun w_z => absurd w_z (by omega), fun _ => ⟨h_z.kd (i_z := 15) rfl (by omega) f2_z, h_z.rm hc_z (by omega) (by omega), nK_at rfl, ?_⟩⟩
    have hs := h_z.sz f1_z
    rw [hs]
    have h1 : Hp c (grL i_z ++ [(9, 0, [], [])]) (4785 + 16 * i_z + 4) M0 (uN M 9 0 4) := h_z.new
    generalize uN M 9 0 4 = M1_z at h1 ⊢
    have l1 : (grL i_z ++ [((9, 0, [], []) : Sp)]).length = 57 + 3 * i_z + 1 := by rw [List.length_append, f1_z]; rfl
    have kk : gK M1_z (c + (57 + 3 * i_z)) = 9 := h1.kd (i_z := 57 + 3 * i_z) rfl (by omega) (by
      have := sp_right (l := grL i_z) (k_z := [((9, 0, [], []) : Sp)]) (i_z := 0)
      rw [f1_z] at this
      rw [show 57 + 3 * i_z = 57 + 3 * i_z + 0 from rfl, this]
      rfl)
    refine C_Gr (r := c + (57 + 3 * i_z)) (by have := h1.sz l1; omega) (by omega) kk (by omega) (by rw [h1.2.1]; omega) (fun M2_z a2 => ?_)
    have h2 := h1.al (j_z := 57 + 3 * i_z) l1 a2
    have h3 : Hp c (grL (i_z + 1)) (4785 + 16 * (i_z + 1)) M0 (uR M2_z (c + 17) (i_z : Int) (c + (57 + 3 * i_z))) := by
      refine (h2.setR (i_z := 17) (o := 57 + 3 * i_z) ?_ rfl rfl (by omega)).cast rfl ?_
      · unfold alL
        rw [List.length_append, List.length_set, l1]
        omega
      · show 4785 + 16 * i_z + 4 + 12 = _
        omega
    have go_z := ih_z (i_z + 1) (by omega) _ h3
    rw [show ((i_z + 1 : Nat) : Int) = (i_z : Int) + 1 from by omega] at go_z
    have len2 : 17 < (alL (grL i_z ++ [(9, 0, [], [])]) (57 + 3 * i_z) [(0, 101, 6), (1, 100, 6)]).length := by
      unfold alL
      rw [List.length_append, List.length_set, l1]
      omega
    have s17 : (sp (alL (grL i_z ++ [(9, 0, [], [])]) (57 + 3 * i_z) [(0, 101, 6), (1, 100, 6)]) 17).1 = 118 ∧ (sp (alL (grL i_z ++ [(9, 0, [], [])]) (57 + 3 * i_z) [(0, 101, 6), (1, 100, 6)]) 17).2.1 = 35 := by
      have e_z : sp (alL (grL i_z ++ [(9, 0, [], [])]) (57 + 3 * i_z) [(0, 101, 6), (1, 100, 6)]) 17 = sp (grL i_z) 17 := by
        unfold alL
        rw [sp_left (by rw [List.length_set, l1]; omega), sp_set (by rw [l1]; omega), if_neg (by omega), sp_left (by omega)]
      rw [e_z]
      exact ⟨f3_z, f4_z⟩
    have k2_z := h2.kd (i_z := 17) (a_z := c + 17) rfl len2 s17.1
    have n2_z := h2.ln (i_z := 17) (a_z := c + 17) rfl len2 s17.2
    have ko : gK M2_z (c + (57 + 3 * i_z)) = 9 := by
      rw [(a2.2.2.2.1 _ (Nat.le_refl _)).1]
      exact kk
    simp only [Option.toList_some, Option.toList_none, List.cons_append, List.nil_append, List.append_nil]
    rw [B_5_143, k2_z, n2_z, ko]
    exact ⟨⟨by decide, by decide⟩, by omega, by omega, Or.inr rfl, ⟨by omega, by omega⟩, go_z⟩
theorem T_Ma (h_z : Hp c hl15 802 M0 M) (hc_z : c = G.1 + 1) (hQ : ∀ N_z, Hp c (grL 35) 5345 M0 N_z → Q none N_z) : Call G J_Ma_init [a_r (c + 15)] M Q := by
  refine T_Ma0 h_z hc_z (fun N1 h1 => ?_)
  refine T_frames (M0 := M0) hc_z (fun N2 h2 => ?_) 5 0 rfl N1 h1
  rw [B_5_120]
  refine T_graphics (M0 := M0) hc_z (fun N3 h3 => ?_) 35 0 rfl N2 h2
  rw [B_5_150]
  exact hQ _ h3
theorem T_states (hc_z : c = G.1 + 1) (hQ : ∀ N_z, Hp c (saL 6) 5945 M0 N_z → Q none N_z) : ∀ (d_z i_z : Nat), i_z + d_z = 6 → ∀ M, Hp c (saL i_z) (5345 + 100 * i_z) M0 M → At G 1 48 [a_r c, a_i (i_z : Int)] [] M Q := by
  intro d_z
  induction d_z with
  | zero =>
    intro i_z hi_z M h_z
    have e_z : i_z = 6 := by omega
    subst e_z
    rw [B_1_48]
    refine ⟨fun _ => ?_, fun w_z => absurd (Int.le_refl _) w_z⟩
    rw [B_1_73]
    exact hQ M h_z
  | succ d_z ih_z =>
    intro i_z hi_z M h_z
    obtain ⟨f1_z, f2_z, f3_z, f4_z, f5_z⟩ := sa_fact i_z (by omega)
    have r0 := h_z.rf (i_z := 0) (a_z := c) (f_z := 2) rfl (by omega) f5_z (by decide)
    have k0_z := h_z.kd (i_z := 0) (a_z := c) rfl (by omega) f2_z
    rw [B_1_48]
    refine ⟨fun w_z => absurd w_z (by omega), fun _ => ⟨k0_z, h_z.rm hc_z (by omega) (by omega), nK_at rfl, ?_⟩⟩
    rw [h_z.sz f1_z, r0]
    have h1 : Hp c (saL i_z ++ [(4, 0, [], [])]) (5345 + 100 * i_z + 7) M0 (uN M 4 0 7) := h_z.new
    generalize uN M 4 0 7 = M1_z at h1 ⊢
    have l1 : (saL i_z ++ [((4, 0, [], []) : Sp)]).length = 162 + 5 * i_z + 1 := by rw [List.length_append, f1_z]; rfl
    have kk : gK M1_z (c + (162 + 5 * i_z)) = 4 := h1.kd (i_z := 162 + 5 * i_z) rfl (by omega) (by
      have := sp_right (l := saL i_z) (k_z := [((4, 0, [], []) : Sp)]) (i_z := 0)
      rw [f1_z] at this
      rw [show 162 + 5 * i_z = 162 + 5 * i_z + 0 from rfl, this]
      rfl)
    refine C_Sa (r := c + (162 + 5 * i_z)) (by have := h1.sz l1; omega) (by omega) kk (by omega) (by rw [h1.2.1]; omega) (fun M2_z a2 => ?_)
    have h2 := h1.al (j_z := 162 + 5 * i_z) l1 a2
    have len2 : (alL (saL i_z ++ [(4, 0, [], [])]) (162 + 5 * i_z) [(0, 119, 7), (1, 102, 6), (2, 100, 24), (3, 100, 56)]).length = 162 + 5 * i_z + 1 + 4 := by
      unfold alL
      rw [List.length_append, List.length_set, l1]
      rfl
    have h3 := ((h2.setI (i_z := 162 + 5 * i_z) (f_z := 4) (v_z := 12) (by omega) rfl).setI (i_z := 162 + 5 * i_z) (f_z := 5) (v_z := 12) (by unfold stI; rw [List.length_set]; omega) rfl).setI (i_z := 162 + 5 * i_z) (f_z := 6) (v_z := 120) (by unfold stI; rw [List.length_set, List.length_set]; omega) rfl
    have len3 : (stI (stI (stI (alL (saL i_z ++ [(4, 0, [], [])]) (162 + 5 * i_z) [(0, 119, 7), (1, 102, 6), (2, 100, 24), (3, 100, 56)]) (162 + 5 * i_z) 4 12) (162 + 5 * i_z) 5 12) (162 + 5 * i_z) 6 120).length = 162 + 5 * i_z + 1 + 4 := by
      unfold stI
      rw [List.length_set, List.length_set, List.length_set]
      exact len2
    have s14 : sp (stI (stI (stI (alL (saL i_z ++ [(4, 0, [], [])]) (162 + 5 * i_z) [(0, 119, 7), (1, 102, 6), (2, 100, 24), (3, 100, 56)]) (162 + 5 * i_z) 4 12) (162 + 5 * i_z) 5 12) (162 + 5 * i_z) 6 120) 14 = sp (saL i_z) 14 := by
      unfold stI
      rw [sp_set (by rw [List.length_set, List.length_set]; omega), if_neg (by omega), sp_set (by rw [List.length_set]; omega), if_neg (by omega), sp_set (by omega), if_neg (by omega)]
      unfold alL
      rw [sp_left (by rw [List.length_set, l1]; omega), sp_set (by rw [l1]; omega), if_neg (by omega), sp_left (by omega)]
    have k3_z := h3.kd (v_z := 113) (i_z := 14) (a_z := c + 14) rfl (by omega) (by rw [s14]; exact f3_z)
    have n3_z := h3.ln (v_z := 6) (i_z := 14) (a_z := c + 14) rfl (by omega) (by rw [s14]; exact f4_z)
    have ko : gK (uI (uI (uI M2_z (c + (162 + 5 * i_z)) 4 12) (c + (162 + 5 * i_z)) 5 12) (c + (162 + 5 * i_z)) 6 120) (c + (162 + 5 * i_z)) = 4 := by
      show gK M2_z _ = 4
      rw [(a2.2.2.2.1 _ (Nat.le_refl _)).1]
      exact kk
    have h4 : Hp c (saL (i_z + 1)) (5345 + 100 * (i_z + 1)) M0 (uR (uI (uI (uI M2_z (c + (162 + 5 * i_z)) 4 12) (c + (162 + 5 * i_z)) 5 12) (c + (162 + 5 * i_z)) 6 120) (c + 14) (i_z : Int) (c + (162 + 5 * i_z))) := by
      refine (h3.setR (i_z := 14) (o := 162 + 5 * i_z) (by omega) rfl rfl (by omega)).cast rfl ?_
      show 5345 + 100 * i_z + 7 + 93 = _
      omega
    have go_z := ih_z (i_z + 1) (by omega) _ h4
    rw [show ((i_z + 1 : Nat) : Int) = (i_z : Int) + 1 from by omega] at go_z
    simp only [Option.toList_some, Option.toList_none, List.cons_append, List.nil_append, List.append_nil]
    rw [B_1_66, k3_z, n3_z, ko]
    exact ⟨⟨by decide, by decide⟩, by omega, by omega, Or.inr rfl, ⟨by omega, by omega⟩, go_z⟩
theorem T_X (h_z : Hp c hl0 5 M0 M) (hc_z : c = G.1 + 1) (hQ : ∀ N_z, Hp c (saL 6) 5945 M0 N_z → Q none N_z) : Call G J_X_init [a_r c] M Q := by
  refine T_XA h_z hc_z (fun N1 h1 => ?_)
  rw [B_1_39]
  refine ⟨h1.kd (i_z := 15) rfl (by decide +kernel) (by decide +kernel), T_Ma h1 hc_z (fun N2 h2 => ?_)⟩
  simp only [Option.toList_some, Option.toList_none, List.cons_append, List.nil_append, List.append_nil]
  rw [B_1_43]
  obtain ⟨f1_z, -⟩ := gr_fact 35 (by decide)
  have h3 : Hp c (saL 0) (5345 + 100 * 0) M0 (uR N2 c 3 (c + 15)) := (h2.setR (i_z := 0) (o := 15) (by omega) rfl rfl (by decide)).cast rfl rfl
  exact ⟨h2.kd (i_z := 0) rfl (by omega) (by decide +kernel), T_states hc_z hQ 6 0 rfl _ h3⟩
end MK
