/-! THE PURE PART, part 13: what ties the class's memory M to the model's memory T (machine at c, its state at s, model at m). Own work. -/
/-- the stream with number x_z (0: the page) in the model's row -/
def lnm (T : Mem) (m_z : Nat) (x_z : Int) : Int := gI T (m_z + 1) (161 * x_z)
def cdm (T : Mem) (m_z : Nat) (x_z : Int) (k_z : Nat) : Int := gI T (m_z + 1) (161 * x_z + 1 + (k_z : Int))
/-- a literal of a token -/
def litOf (cd : Int) : Int := if cd < 10000 then pk (cd - 100) 0 else pk ((cd - 10000) / 16 - 1000) ((cd - 10000) % 16)
/-- the operators, which nobody writes -/
def OpF (G_z : Env0) (M_z : Mem) : Prop := (gK M_z (G_z.2 1) = 104 ∧ gN M_z (G_z.2 1) = 23 ∧ ∀ k_z : Nat, k_z < 23 → gI M_z (G_z.2 1) (k_z : Int) = ((smapL.getD k_z 0 : Nat) : Int)) ∧ ∀ i_z : Nat, i_z < 23 → G_z.2 (3 + i_z) ≠ 0 ∧ gK M_z (G_z.2 (3 + i_z)) = 41 ∧ ∀ k_z : Nat, k_z ∈ [0, 2, 3, 4, 5] → gI M_z (G_z.2 (3 + i_z)) (k_z : Int) = (((opV i_z).getD (vix k_z) 0 : Nat) : Int)
/-- a program p_z, and the n_z codes that it stands for -/
def PgR (G_z : Env0) (M_z : Mem) (p_z : Nat) (n_z : Nat) (cd : Nat → Int) : Prop :=
  p_z ≠ 0 ∧ ShPg M_z p_z ∧ gI M_z p_z 3 = (n_z : Int) ∧ n_z < 160 ∧ WfP cd n_z ∧
  (∀ i_z : Nat, i_z < n_z → (0 ≤ cd i_z ∧ cd i_z ≤ 22 ∧ gR M_z (p_z + 1) (i_z : Int) = G_z.2 (3 + (cd i_z).toNat)) ∨ (gR M_z (p_z + 1) (i_z : Int) = 0 ∧ gL M_z (p_z + 2) (i_z : Int) = litOf (cd i_z) ∧ ((100 ≤ cd i_z ∧ cd i_z ≤ 107) ∨ (10000 ≤ cd i_z ∧ NV (litOf (cd i_z)))))) ∧
  (∀ j_z : Nat, j_z < n_z → cd j_z = 14 → ∃ q_z : Nat, q_z < n_z ∧ gI M_z (p_z + 3) (j_z : Int) = (q_z : Int) ∧ Par cd j_z q_z)
/-- what edits change -/
def EdR (G_z : Env0) (M_z T : Mem) (s_z m_z : Nat) : Prop :=
  ShSa M_z s_z ∧
  (∀ x_z : Int, 0 ≤ x_z → x_z < 7 → (lnm T m_z x_z = -1 ∧ gR M_z (s_z + 1) x_z = 0) ∨ (0 ≤ lnm T m_z x_z ∧ PgR G_z M_z (gR M_z (s_z + 1) x_z) (lnm T m_z x_z).toNat (cdm T m_z x_z))) ∧
  (∀ f_z : Int, 0 ≤ f_z → f_z < 6 → (gI M_z (s_z + 2) f_z = 0 ∨ gI M_z (s_z + 2) f_z = 1) ∧ gI T (m_z + 1) (1127 + 5 * f_z) = gI M_z (s_z + 2) f_z ∧ ∀ i_z : Int, 0 ≤ i_z → i_z < 4 → gI M_z (s_z + 3) (4 * f_z + i_z) = gI T (m_z + 1) (1127 + 5 * f_z + 1 + i_z) ∧ (gI M_z (s_z + 3) (4 * f_z + i_z)).natAbs ≤ 99) ∧
  (∀ i_z : Int, 0 ≤ i_z → i_z < 56 → gI M_z (s_z + 4) i_z = gI T (m_z + 1) (1157 + i_z) ∧ (gI M_z (s_z + 4) i_z = 0 ∨ (100 ≤ gI M_z (s_z + 4) i_z ∧ gI M_z (s_z + 4) i_z ≤ 115) ∨ (200 ≤ gI M_z (s_z + 4) i_z ∧ gI M_z (s_z + 4) i_z ≤ 205))) ∧
  (gI M_z s_z 4 = gI T (m_z + 1) 1213 ∧ 4 ≤ gI M_z s_z 4 ∧ gI M_z s_z 4 ≤ 24) ∧ (gI M_z s_z 5 = gI T (m_z + 1) 1214 ∧ 4 ≤ gI M_z s_z 5 ∧ gI M_z s_z 5 ≤ 24) ∧ (gI M_z s_z 6 = gI T (m_z + 1) 1215 ∧ 1 ≤ gI M_z s_z 6 ∧ gI M_z s_z 6 ≤ 200)
/-- what was counted -/
def TrR (M_z T : Mem) (c_z m_z : Nat) : Prop :=
  gI M_z c_z 13 = gI T m_z 49 ∧ 0 ≤ gI M_z c_z 13 ∧ gI M_z c_z 13 ≤ 200 ∧ ∀ i_z : Int, 0 ≤ i_z → i_z < gI M_z c_z 13 → gI M_z (c_z + 17) i_z = gI T (m_z + 25) (3 * i_z) ∧ gI M_z (c_z + 18) i_z = gI T (m_z + 25) (3 * i_z + 1) ∧ gI M_z (c_z + 19) i_z = gI T (m_z + 25) (3 * i_z + 2)
/-- an operand: a number or a name -/
def OpR (u_z d_z v_z : Int) : Prop := u_z = fu v_z ∧ d_z = fd v_z ∧ (NV v_z ∨ (fd v_z = 0 ∧ 0 ≤ fu v_z ∧ fu v_z ≤ 7))
/-- the frame of level l, which stands at r_z; tk: the token that comes next -/
def FrL (M_z T : Mem) (s_z m_z r_z : Nat) (l tk : Int) : Prop :=
  (0 ≤ gI T (m_z + 17) l ∧ gI T (m_z + 17) l ≤ 6 ∧ gI M_z r_z 4 = gI T (m_z + 17) l - 1) ∧
  (gR M_z r_z 3 = gR M_z (s_z + 1) (gI T (m_z + 17) l) ∧ 0 ≤ lnm T m_z (gI T (m_z + 17) l)) ∧
  (gI M_z r_z 5 = tk ∧ 0 ≤ tk ∧ tk ≤ lnm T m_z (gI T (m_z + 17) l)) ∧
  (gI M_z r_z 6 = gI T (m_z + 19) l ∧ 0 ≤ gI M_z r_z 6 ∧ gI M_z r_z 6 ≤ 16) ∧
  (∀ i_z : Int, 0 ≤ i_z → i_z < gI M_z r_z 6 → OpR (gI T (m_z + 20) (16 * l + i_z)) (gI T (m_z + 21) (16 * l + i_z)) (gL M_z (r_z + 1) i_z)) ∧
  (gI M_z r_z 7 = gI T (m_z + 22) l ∧ 0 ≤ gI M_z r_z 7 ∧ gI M_z r_z 7 ≤ 3) ∧
  (∀ i_z : Int, 0 ≤ i_z → i_z < gI M_z r_z 7 → gI M_z (r_z + 2) i_z = gI T (m_z + 23) (3 * l + i_z) + 1 ∧ gI M_z (r_z + 3) i_z = gI T (m_z + 24) (3 * l + i_z) + 1 ∧ 1 ≤ gI M_z (r_z + 3) i_z ∧ gI M_z (r_z + 3) i_z ≤ 9) ∧
  LpO (scan (cdm T m_z (gI T (m_z + 17) l)) tk.toNat).1 (gI M_z r_z 7) (fun i_z => gI T (m_z + 23) (3 * l + i_z))
/-- the number of times that are left in the loops of a frame -/
def lft (f_z : Int → Int) (w_z : Int) : Int := (if 0 < w_z then f_z 0 else 0) + (if 1 < w_z then f_z 1 else 0) + (if 2 < w_z then f_z 2 else 0)
/-- what is left to do in a frame -/
def wrk (M_z T : Mem) (m_z r_z : Nat) (l : Int) : Int := 200 * lft (gI M_z (r_z + 3)) (gI M_z r_z 7) + (lnm T m_z (gI T (m_z + 17) l) - gI M_z r_z 5) + 1
/-- the scan of the frame of level l -/
def sc (M_z T : Mem) (m_z r_z : Nat) (l : Int) : Stk × Bool := scan (cdm T m_z (gI T (m_z + 17) l)) (gI M_z r_z 5).toNat
/-- all frames; E_z: what can still be done -/
def FrR (M_z T : Mem) (c_z s_z m_z : Nat) (E_z : Int) : Prop :=
  (gI M_z c_z 11 = gI T m_z 36 ∧ 0 ≤ gI M_z c_z 11 ∧ gI M_z c_z 11 < 5) ∧
  (∀ l : Nat, (l : Int) ≤ gI M_z c_z 11 → FrL M_z T s_z m_z (c_z + 22 + 4 * l) l (gI T (m_z + 18) l + (if (l : Int) < gI M_z c_z 11 then 1 else 0))) ∧
  gI T (m_z + 17) 0 = 0 ∧
  ∃ B_z C_z : Nat → Int, B_z 0 = 0 ∧ C_z 0 = 0 ∧
    (∀ l : Nat, (l : Int) < gI M_z c_z 11 → B_z (l + 1) = B_z l + nsv (sc M_z T m_z (c_z + 22 + 4 * l) l).1 + 1 ∧ C_z (l + 1) = C_z l + wrk M_z T m_z (c_z + 22 + 4 * l) l ∧ (sc M_z T m_z (c_z + 22 + 4 * l) l).2 = false) ∧
    gI M_z c_z 12 = B_z (gI M_z c_z 11).toNat + nsv (sc M_z T m_z (c_z + 22 + 4 * (gI M_z c_z 11).toNat) (gI M_z c_z 11)).1 ∧
    ((sc M_z T m_z (c_z + 22 + 4 * (gI M_z c_z 11).toNat) (gI M_z c_z 11)).2 = true ↔ 0 < gI T m_z 25) ∧
    E_z = (200 - gI M_z c_z 13) * 2500 + C_z (gI M_z c_z 11).toNat + wrk M_z T m_z (c_z + 22 + 4 * (gI M_z c_z 11).toNat) (gI M_z c_z 11)
/-- the starts of parts: by flags, and by a row of places -/
def PB (F_z : Int → Int) (n_z : Int) (Bg : Int → Int) (k_z : Int) : Prop :=
  0 ≤ k_z ∧ (n_z = 0 → k_z = 0) ∧ (0 < n_z → 0 < k_z ∧ Bg 0 = 0) ∧ (∀ j_z, 0 ≤ j_z → j_z < k_z → 0 ≤ Bg j_z ∧ Bg j_z < n_z ∧ F_z (Bg j_z) = 1) ∧ (∀ j_z, 0 ≤ j_z → j_z + 1 < k_z → Bg j_z < Bg (j_z + 1)) ∧ ∀ i_z, 0 ≤ i_z → i_z < n_z → F_z i_z = 1 → ∃ j_z, 0 ≤ j_z ∧ j_z < k_z ∧ Bg j_z = i_z
/-- the points of a_z path: n_z from a_z on in the pool, from b_z on in the model's rows -/
def PC (xs ys fl_z : Int → Int) (a_z n_z : Int) (mx_z my mb : Int → Int) (b_z k_z : Int) : Prop :=
  0 ≤ n_z ∧ n_z ≤ 24 ∧ (∀ i_z, 0 ≤ i_z → i_z < n_z → xs (a_z + i_z) = mx_z (b_z + i_z) ∧ ys (a_z + i_z) = my (b_z + i_z) ∧ (xs (a_z + i_z)).natAbs ≤ 16000 ∧ (ys (a_z + i_z)).natAbs ≤ 16000 ∧ (fl_z (a_z + i_z) = 0 ∨ fl_z (a_z + i_z) = 1)) ∧ PB (fun i_z => fl_z (a_z + i_z)) n_z (fun j_z => mb (b_z + j_z)) k_z
/-- path p_z of the class is path q_z of the model -/
def PthR (M_z T : Mem) (c_z m_z : Nat) (p_z q_z : Int) : Prop :=
  0 ≤ p_z ∧ p_z < gI M_z (c_z + 4) 5 ∧ 0 ≤ q_z ∧ q_z < gI T m_z 33 ∧ (0 ≤ gI M_z (c_z + 8) p_z ∧ gI M_z (c_z + 8) p_z < gI M_z (c_z + 8) (p_z + 1)) ∧ gI M_z (c_z + 8) (p_z + 1) ≤ gI M_z (c_z + 4) 6 ∧ gI T (m_z + 14) q_z = gI M_z (c_z + 8) (p_z + 1) - gI M_z (c_z + 8) p_z ∧
  PC (gI M_z (c_z + 5)) (gI M_z (c_z + 6)) (gI M_z (c_z + 7)) (gI M_z (c_z + 8) p_z) (gI M_z (c_z + 8) (p_z + 1) - gI M_z (c_z + 8) p_z) (gI T (m_z + 11)) (gI T (m_z + 12)) (gI T (m_z + 13)) (24 * q_z) (gI T (m_z + 15) q_z)
/-- clip path p_z of the class is the model's entry e_z: of a rectangle the rule doesn't matter -/
def ClR (M_z T : Mem) (c_z m_z : Nat) (p_z e_z : Int) : Prop :=
  0 ≤ e_z ∧ PthR M_z T c_z m_z p_z (e_z / 2) ∧ (gI M_z (c_z + 9) p_z = 0 ∨ gI M_z (c_z + 9) p_z = 1) ∧ (gI M_z (c_z + 9) p_z = e_z % 2 ∨ (gI M_z (c_z + 8) (p_z + 1) - gI M_z (c_z + 8) p_z = 4 ∧ gI T (m_z + 15) (e_z / 2) = 1))
/-- the graphics state at r_z is the row g_z -/
def GrR (M_z T : Mem) (c_z m_z r_z : Nat) (g_z : Int → Int) : Prop :=
  (∀ i_z, 0 ≤ i_z → i_z < 6 → NV (gL M_z (r_z + 1) i_z) ∧ g_z i_z = fu (gL M_z (r_z + 1) i_z) ∧ g_z (6 + i_z) = fd (gL M_z (r_z + 1) i_z)) ∧ g_z 12 = gI M_z r_z 3 ∧ (0 ≤ gI M_z r_z 3 ∧ gI M_z r_z 3 ≤ 15) ∧ g_z 13 = gI M_z r_z 2 ∧ 0 ≤ gI M_z r_z 2 ∧ gI M_z r_z 2 ≤ 6 ∧ ∀ i_z, 0 ≤ i_z → i_z < gI M_z r_z 2 → ClR M_z T c_z m_z (gI M_z (r_z + 2) i_z) (g_z (14 + i_z))
def GsR (M_z T : Mem) (c_z m_z : Nat) : Prop :=
  gI M_z c_z 12 = gI T m_z 19 ∧ 0 ≤ gI M_z c_z 12 ∧ gI M_z c_z 12 < 35 ∧ GrR M_z T c_z m_z (c_z + 42 + 3 * (gI M_z c_z 12).toNat) (gI T (m_z + 6)) ∧ ∀ t_z : Nat, (t_z : Int) < gI M_z c_z 12 → GrR M_z T c_z m_z (c_z + 42 + 3 * t_z) (fun k_z => gI T (m_z + 7) (20 * t_z + k_z))
/-- the pool, and the path that is being made -/
def PaR (M_z T : Mem) (c_z m_z : Nat) : Prop :=
  (0 ≤ gI M_z (c_z + 4) 5 ∧ gI M_z (c_z + 4) 5 ≤ gI M_z c_z 13) ∧ (0 ≤ gI M_z (c_z + 4) 6 ∧ gI M_z (c_z + 4) 6 ≤ 4 * gI M_z c_z 13) ∧ (0 ≤ gI T m_z 33 ∧ gI T m_z 33 ≤ gI M_z (c_z + 4) 5) ∧
  (0 ≤ gI M_z (c_z + 8) (gI M_z (c_z + 4) 5) ∧ gI T m_z 25 = gI M_z (c_z + 4) 6 - gI M_z (c_z + 8) (gI M_z (c_z + 4) 5)) ∧
  PC (gI M_z (c_z + 5)) (gI M_z (c_z + 6)) (gI M_z (c_z + 7)) (gI M_z (c_z + 8) (gI M_z (c_z + 4) 5)) (gI T m_z 25) (gI T (m_z + 8)) (gI T (m_z + 9)) (gI T (m_z + 10)) 0 (gI T m_z 26) ∧
  (gI T m_z 25 = 0 → gI T m_z 27 = 0) ∧
  ((gI M_z (c_z + 4) 7 = 0 ∧ gI T m_z 27 = 0) ∨ (gI M_z (c_z + 4) 7 = 1 ∧ (gI T m_z 27 = 1 ∨ gI T m_z 27 = 2) ∧ gI M_z (c_z + 9) (gI M_z (c_z + 4) 5) = gI T m_z 27 - 1)) ∧
  (gI M_z (c_z + 9) (gI M_z (c_z + 4) 5) = 0 ∨ gI M_z (c_z + 9) (gI M_z (c_z + 4) 5) = 1)
def ItR (M_z T : Mem) (c_z m_z : Nat) : Prop :=
  gI M_z (c_z + 3) 8 = gI T m_z 35 ∧ 0 ≤ gI M_z (c_z + 3) 8 ∧ gI M_z (c_z + 3) 8 ≤ 30 ∧ ∀ i_z : Int, 0 ≤ i_z → i_z < gI M_z (c_z + 3) 8 →
    gI M_z (c_z + 12) i_z = gI T (m_z + 16) (12 * i_z) ∧ (0 ≤ gI M_z (c_z + 12) i_z ∧ gI M_z (c_z + 12) i_z ≤ 15) ∧ gI M_z (c_z + 11) i_z = gI T (m_z + 16) (12 * i_z + 1) ∧ (gI M_z (c_z + 11) i_z = 0 ∨ gI M_z (c_z + 11) i_z = 1) ∧ PthR M_z T c_z m_z (gI M_z (c_z + 10) i_z) (gI T (m_z + 16) (12 * i_z + 2)) ∧ gI M_z (c_z + 13) i_z = gI T (m_z + 16) (12 * i_z + 3) ∧ gI M_z (c_z + 14) i_z = gI T (m_z + 16) (12 * i_z + 4) ∧ gI M_z (c_z + 15) i_z = gI T (m_z + 16) (12 * i_z + 5) ∧ 0 ≤ gI M_z (c_z + 15) i_z ∧ gI M_z (c_z + 15) i_z ≤ 6 ∧ ∀ j_z : Int, 0 ≤ j_z → j_z < gI M_z (c_z + 15) i_z → ClR M_z T c_z m_z (gI M_z (c_z + 16) (6 * i_z + j_z)) (gI T (m_z + 16) (12 * i_z + 6 + j_z))
/-- all of it, in the midst of a run -/
def Rel (G_z : Env0) (M_z T : Mem) (c_z s_z m_z : Nat) (E_z : Int) : Prop :=
  ShMa M_z c_z ∧ ShM T m_z ∧ OpF G_z M_z ∧ (s_z + 5 ≤ c_z ∧ gR M_z c_z 9 = s_z ∧ (∀ i_z, (i_z < 26 ∧ i_z ≠ 2) → G_z.2 i_z < s_z) ∧ ∀ x_z : Int, 0 ≤ x_z → x_z < 7 → gR M_z (s_z + 1) x_z = 0 ∨ c_z + 147 ≤ gR M_z (s_z + 1) x_z) ∧ EdR G_z M_z T s_z m_z ∧ TrR M_z T c_z m_z ∧ FrR M_z T c_z s_z m_z E_z ∧ GsR M_z T c_z m_z ∧ PaR M_z T c_z m_z ∧ ItR M_z T c_z m_z ∧ (gI M_z c_z 14 = gI T m_z 50 ∧ gI M_z c_z 15 = 0 ∧ gI T m_z 46 = 0) ∧ gI M_z c_z 13 ≤ gI M_z s_z 6
/-! What leaves a part as it is. -/
theorem TrR.fr {M_z T M' T' : Mem} {c_z m_z : Nat} (h_z : TrR M_z T c_z m_z) (e0_z : gI M' c_z 13 = gI M_z c_z 13) (e1_z : gI M' (c_z + 17) = gI M_z (c_z + 17)) (e2_z : gI M' (c_z + 18) = gI M_z (c_z + 18)) (e3_z : gI M' (c_z + 19) = gI M_z (c_z + 19)) (e4_z : gI T' m_z 49 = gI T m_z 49) (e5_z : gI T' (m_z + 25) = gI T (m_z + 25)) : TrR M' T' c_z m_z := by
  unfold TrR
  rw [e0_z, e1_z, e2_z, e3_z, e4_z, e5_z]
  exact h_z
/-- the pool grows, finished paths stay -/
def Pool (M_z T M' T' : Mem) (c_z m_z : Nat) : Prop :=
  gI M_z (c_z + 4) 5 ≤ gI M' (c_z + 4) 5 ∧ gI T m_z 33 ≤ gI T' m_z 33 ∧ gI M_z (c_z + 4) 6 ≤ gI M' (c_z + 4) 6 ∧
  (∀ i_z : Int, 0 ≤ i_z → i_z < gI M_z (c_z + 4) 6 → gI M' (c_z + 5) i_z = gI M_z (c_z + 5) i_z ∧ gI M' (c_z + 6) i_z = gI M_z (c_z + 6) i_z ∧ gI M' (c_z + 7) i_z = gI M_z (c_z + 7) i_z) ∧
  (∀ i_z : Int, 0 ≤ i_z → i_z ≤ gI M_z (c_z + 4) 5 → gI M' (c_z + 8) i_z = gI M_z (c_z + 8) i_z) ∧ (∀ i_z : Int, 0 ≤ i_z → i_z < gI M_z (c_z + 4) 5 → gI M' (c_z + 9) i_z = gI M_z (c_z + 9) i_z) ∧
  (∀ q_z : Int, 0 ≤ q_z → q_z < gI T m_z 33 → gI T' (m_z + 14) q_z = gI T (m_z + 14) q_z ∧ gI T' (m_z + 15) q_z = gI T (m_z + 15) q_z) ∧
  (∀ i_z : Int, 0 ≤ i_z → i_z < 24 * gI T m_z 33 → gI T' (m_z + 11) i_z = gI T (m_z + 11) i_z ∧ gI T' (m_z + 12) i_z = gI T (m_z + 12) i_z ∧ gI T' (m_z + 13) i_z = gI T (m_z + 13) i_z)
theorem Pool.same {M_z T M' T' : Mem} {c_z m_z : Nat} (a3 : gI M' (c_z + 4) 5 = gI M_z (c_z + 4) 5) (a3' : gI M' (c_z + 4) 6 = gI M_z (c_z + 4) 6) (a4 : gI M' (c_z + 5) = gI M_z (c_z + 5)) (a5 : gI M' (c_z + 6) = gI M_z (c_z + 6)) (a6 : gI M' (c_z + 7) = gI M_z (c_z + 7)) (a7 : gI M' (c_z + 8) = gI M_z (c_z + 8)) (a8 : gI M' (c_z + 9) = gI M_z (c_z + 9)) (b33 : gI T' m_z 33 = gI T m_z 33) (b11 : gI T' (m_z + 11) = gI T (m_z + 11)) (b12 : gI T' (m_z + 12) = gI T (m_z + 12)) (b13 : gI T' (m_z + 13) = gI T (m_z + 13)) (b14 : gI T' (m_z + 14) = gI T (m_z + 14)) (b15 : gI T' (m_z + 15) = gI T (m_z + 15)) : Pool M_z T M' T' c_z m_z := by
  refine ⟨by omega, by omega, by omega, fun i_z _ _ => ?_, fun i_z _ _ => by rw [a7], fun i_z _ _ => by rw [a8], fun q_z _ _ => by rw [b14, b15]; exact ⟨rfl, rfl⟩, fun i_z _ _ => by rw [b11, b12, b13]; exact ⟨rfl, rfl, rfl⟩⟩
  rw [a4, a5, a6]
  exact ⟨rfl, rfl, rfl⟩
theorem PB.congr {F_z F' : Int → Int} {n_z : Int} {Bg Bg' : Int → Int} {k_z : Int} (h_z : PB F_z n_z Bg k_z) (e_z : ∀ i_z, 0 ≤ i_z → i_z < n_z → F' i_z = F_z i_z) (e2_z : ∀ i_z, 0 ≤ i_z → i_z < k_z → Bg' i_z = Bg i_z) : PB F' n_z Bg' k_z := by
  obtain ⟨h1, h2, h3, h4, h5, h6⟩ := h_z
  refine ⟨h1, h2, fun q_z => ?_, fun j_z j0 j1 => ?_, fun j_z j0 j1 => ?_, fun i_z i0_z i1_z q_z => ?_⟩
  · obtain ⟨a_z, b_z⟩ := h3 q_z
    exact ⟨a_z, by rw [e2_z 0 (by omega) a_z]; exact b_z⟩
  · obtain ⟨a_z, b_z, d_z⟩ := h4 j_z j0 j1
    rw [e2_z j_z j0 j1]
    exact ⟨a_z, b_z, by rw [e_z _ a_z b_z]; exact d_z⟩
  · rw [e2_z j_z j0 (by omega), e2_z (j_z + 1) (by omega) j1]
    exact h5 j_z j0 j1
  · rw [e_z i_z i0_z i1_z] at q_z
    obtain ⟨j_z, j0, j1, j2_z⟩ := h6 i_z i0_z i1_z q_z
    exact ⟨j_z, j0, j1, by rw [e2_z j_z j0 j1]; exact j2_z⟩
theorem PB.le {F_z : Int → Int} {n_z : Int} {Bg : Int → Int} {k_z : Int} (h_z : PB F_z n_z Bg k_z) (hn : 0 ≤ n_z) : k_z ≤ n_z := by
  obtain ⟨h1, h2, h3, h4, h5, h6⟩ := h_z
  have key_z : ∀ d_z : Nat, (d_z : Int) < k_z → (d_z : Int) ≤ Bg d_z := by
    intro d_z
    induction d_z with
    | zero =>
      intro q_z
      exact (h4 0 (by omega) (by omega)).1
    | succ d_z ih_z =>
      intro q_z
      have := ih_z (by omega)
      have h7 := h5 d_z (by omega) (by omega)
      rw [show ((d_z + 1 : Nat) : Int) = (d_z : Int) + 1 from by omega]
      omega
  by_cases c_z : k_z = 0
  · by_cases cn : 0 < n_z
    · have := h3 cn
      omega
    · by_cases c3_z : n_z = 0
      · omega
      · omega
  · have h7 := key_z (k_z - 1).toNat (by omega)
    have h8 := h4 (k_z - 1) (by omega) (by omega)
    rw [show ((k_z - 1).toNat : Int) = k_z - 1 from by omega] at h7
    omega
theorem PC.congr {xs ys fl_z xs' ys' fl' : Int → Int} {a_z n_z : Int} {mx_z my mb mx' my' mb' : Int → Int} {b_z k_z k' : Int} (h_z : PC xs ys fl_z a_z n_z mx_z my mb b_z k_z) (e1_z : ∀ i_z, 0 ≤ i_z → i_z < n_z → xs' (a_z + i_z) = xs (a_z + i_z) ∧ ys' (a_z + i_z) = ys (a_z + i_z) ∧ fl' (a_z + i_z) = fl_z (a_z + i_z)) (e2_z : ∀ i_z, 0 ≤ i_z → i_z < n_z → mx' (b_z + i_z) = mx_z (b_z + i_z) ∧ my' (b_z + i_z) = my (b_z + i_z) ∧ mb' (b_z + i_z) = mb (b_z + i_z)) (ek : k' = k_z) : PC xs' ys' fl' a_z n_z mx' my' mb' b_z k' := by
  subst ek
  obtain ⟨h1, h2, h3, h4⟩ := h_z
  have hk := PB.le h4 h1
  refine ⟨h1, h2, fun i_z i0_z i1_z => ?_, PB.congr h4 (fun i_z i0_z i1_z => (e1_z i_z i0_z i1_z).2.2) (fun i_z i0_z i1_z => (e2_z i_z i0_z (by omega)).2.2)⟩
  obtain ⟨q1_z, q2_z, q3_z⟩ := e1_z i_z i0_z i1_z
  obtain ⟨q4_z, q5_z, q6_z⟩ := e2_z i_z i0_z i1_z
  rw [q1_z, q2_z, q3_z, q4_z, q5_z]
  exact h3 i_z i0_z i1_z
theorem PthR.fr {M_z T M' T' : Mem} {c_z m_z : Nat} {p_z q_z : Int} (h_z : PthR M_z T c_z m_z p_z q_z) (po : Pool M_z T M' T' c_z m_z) : PthR M' T' c_z m_z p_z q_z := by
  obtain ⟨h1, h2, h3, h4, h5, h6, h7, h8⟩ := h_z
  obtain ⟨p1_z, p2_z, p3_z, p4_z, p5_z, p6_z, p7_z, p8_z⟩ := po
  have n24_z := h8.2.1
  unfold PthR
  rw [p5_z p_z h1 (by omega), p5_z (p_z + 1) (by omega) (by omega), (p7_z q_z h3 h4).1]
  refine ⟨h1, by omega, h3, by omega, h5, by omega, h7, PC.congr h8 (fun i_z i0_z i1_z => p4_z _ (by omega) (by omega)) (fun i_z i0_z i1_z => p8_z _ (by omega) (by omega)) (p7_z q_z h3 h4).2⟩
theorem ClR.fr {M_z T M' T' : Mem} {c_z m_z : Nat} {p_z e_z : Int} (h_z : ClR M_z T c_z m_z p_z e_z) (po : Pool M_z T M' T' c_z m_z) : ClR M' T' c_z m_z p_z e_z := by
  obtain ⟨h1, h2, h3, h4⟩ := h_z
  have hp := PthR.fr h2 po
  obtain ⟨a1_z, a2, a3, a4, a5, a6, a7, a8⟩ := h2
  obtain ⟨p1_z, p2_z, p3_z, p4_z, p5_z, p6_z, p7_z, p8_z⟩ := po
  refine ⟨h1, hp, ?_, ?_⟩
  · rw [p6_z p_z a1_z a2]
    exact h3
  · rw [p6_z p_z a1_z a2, p5_z p_z a1_z (by omega), p5_z (p_z + 1) (by omega) (by omega), (p7_z _ a3 a4).2]
    exact h4
theorem GrR.fr {M_z T M' T' : Mem} {c_z m_z r_z : Nat} {g_z g' : Int → Int} (h_z : GrR M_z T c_z m_z r_z g_z) (po : Pool M_z T M' T' c_z m_z) (e0_z : gI M' r_z = gI M_z r_z) (e1_z : gL M' (r_z + 1) = gL M_z (r_z + 1)) (e2_z : gI M' (r_z + 2) = gI M_z (r_z + 2)) (eg : ∀ k_z, 0 ≤ k_z → k_z < 20 → g' k_z = g_z k_z) : GrR M' T' c_z m_z r_z g' := by
  obtain ⟨h1, h2, h3, h4, h5, h6, h7⟩ := h_z
  unfold GrR
  rw [e0_z, e1_z, e2_z, eg 12 (by decide) (by decide), eg 13 (by decide) (by decide)]
  refine ⟨fun i_z i0_z i1_z => ?_, h2, h3, h4, h5, h6, fun i_z i0_z i1_z => ?_⟩
  · rw [eg i_z i0_z (by omega), eg (6 + i_z) (by omega) (by omega)]
    exact h1 i_z i0_z i1_z
  · rw [eg (14 + i_z) (by omega) (by omega)]
    exact ClR.fr (h7 i_z i0_z i1_z) po
theorem GsR.fr {M_z T M' T' : Mem} {c_z m_z : Nat} (h_z : GsR M_z T c_z m_z) (po : Pool M_z T M' T' c_z m_z) (e12_z : gI M' c_z 12 = gI M_z c_z 12) (e19_z : gI T' m_z 19 = gI T m_z 19) (er : ∀ r_z : Nat, c_z + 42 ≤ r_z → r_z < c_z + 147 → gI M' r_z = gI M_z r_z ∧ gL M' r_z = gL M_z r_z) (e6_z : gI T' (m_z + 6) = gI T (m_z + 6)) (e7_z : gI T' (m_z + 7) = gI T (m_z + 7)) : GsR M' T' c_z m_z := by
  obtain ⟨h1, h2, h3, h4, h5⟩ := h_z
  unfold GsR
  rw [e12_z, e19_z, e6_z, e7_z]
  refine ⟨h1, h2, h3, GrR.fr h4 po (er _ (by omega) (by omega)).1 (er _ (by omega) (by omega)).2 (er _ (by omega) (by omega)).1 (fun k_z _ _ => rfl), fun t_z ht => GrR.fr (h5 t_z ht) po (er _ (by omega) (by omega)).1 (er _ (by omega) (by omega)).2 (er _ (by omega) (by omega)).1 (fun k_z _ _ => rfl)⟩
theorem PaR.fr {M_z T M' T' : Mem} {c_z m_z : Nat} (h_z : PaR M_z T c_z m_z) (e13_z : gI M_z c_z 13 ≤ gI M' c_z 13) (a3 : gI M' (c_z + 4) = gI M_z (c_z + 4)) (a4 : gI M' (c_z + 5) = gI M_z (c_z + 5)) (a5 : gI M' (c_z + 6) = gI M_z (c_z + 6)) (a6 : gI M' (c_z + 7) = gI M_z (c_z + 7)) (a7 : gI M' (c_z + 8) = gI M_z (c_z + 8)) (a8 : gI M' (c_z + 9) = gI M_z (c_z + 9)) (b33 : gI T' m_z 33 = gI T m_z 33) (b25 : gI T' m_z 25 = gI T m_z 25) (b26 : gI T' m_z 26 = gI T m_z 26) (b27 : gI T' m_z 27 = gI T m_z 27) (b8 : gI T' (m_z + 8) = gI T (m_z + 8)) (b9 : gI T' (m_z + 9) = gI T (m_z + 9)) (b10 : gI T' (m_z + 10) = gI T (m_z + 10)) : PaR M' T' c_z m_z := by
  obtain ⟨h1, h2, h3, h4⟩ := h_z
  unfold PaR
  rw [a3, a4, a5, a6, a7, a8, b33, b25, b26, b27, b8, b9, b10]
  exact ⟨⟨h1.1, by omega⟩, ⟨h2.1, by omega⟩, h3, h4⟩
theorem ItR.fr {M_z T M' T' : Mem} {c_z m_z : Nat} (h_z : ItR M_z T c_z m_z) (po : Pool M_z T M' T' c_z m_z) (er : ∀ r_z : Nat, (r_z = c_z + 3 ∨ c_z + 10 ≤ r_z) → r_z < c_z + 17 → gI M' r_z = gI M_z r_z) (e35 : gI T' m_z 35 = gI T m_z 35) (e16_z : gI T' (m_z + 16) = gI T (m_z + 16)) : ItR M' T' c_z m_z := by
  obtain ⟨h1, h2, h3, h4⟩ := h_z
  unfold ItR
  rw [er (c_z + 3) (by omega) (by omega), er (c_z + 10) (by omega) (by omega), er (c_z + 11) (by omega) (by omega), er (c_z + 12) (by omega) (by omega), er (c_z + 13) (by omega) (by omega), er (c_z + 14) (by omega) (by omega), er (c_z + 15) (by omega) (by omega), er (c_z + 16) (by omega) (by omega), e35, e16_z]
  refine ⟨h1, h2, h3, fun i_z i0_z i1_z => ?_⟩
  obtain ⟨q1_z, q2_z, q3_z, q4_z, q5_z, q6_z, q7_z, q8_z, q9_z, q10_z, q11_z⟩ := h4 i_z i0_z i1_z
  exact ⟨q1_z, q2_z, q3_z, q4_z, PthR.fr q5_z po, q6_z, q7_z, q8_z, q9_z, q10_z, fun j_z j0 j1 => ClR.fr (q11_z j_z j0 j1) po⟩
/-- a program's cells -/
theorem PgR.fr {G_z : Env0} {M_z M' : Mem} {p_z n_z : Nat} {cd : Nat → Int} (h_z : PgR G_z M_z p_z n_z cd) (eK : gK M' = gK M_z) (eN_z : gN M' = gN M_z) (eR : gR M' p_z = gR M_z p_z ∧ gR M' (p_z + 1) = gR M_z (p_z + 1)) (eI : gI M' p_z = gI M_z p_z ∧ gI M' (p_z + 3) = gI M_z (p_z + 3)) (eL : gL M' (p_z + 2) = gL M_z (p_z + 2)) : PgR G_z M' p_z n_z cd := by
  unfold PgR ShPg ShPgx
  rw [eK, eN_z, eR.1, eR.2, eI.1, eI.2, eL]
  exact h_z
theorem FrL.fr {M_z T M' T' : Mem} {s_z m_z r_z : Nat} {l tk : Int} (h_z : FrL M_z T s_z m_z r_z l tk) (eR : gR M' = gR M_z) (e0_z : gI M' r_z = gI M_z r_z) (e1_z : gL M' (r_z + 1) = gL M_z (r_z + 1)) (e2_z : gI M' (r_z + 2) = gI M_z (r_z + 2)) (e3_z : gI M' (r_z + 3) = gI M_z (r_z + 3)) (t1_z : gI T' (m_z + 1) = gI T (m_z + 1)) (t17 : gI T' (m_z + 17) l = gI T (m_z + 17) l) (t19 : gI T' (m_z + 19) l = gI T (m_z + 19) l) (t20 : ∀ i_z, 0 ≤ i_z → i_z < 16 → gI T' (m_z + 20) (16 * l + i_z) = gI T (m_z + 20) (16 * l + i_z) ∧ gI T' (m_z + 21) (16 * l + i_z) = gI T (m_z + 21) (16 * l + i_z)) (t22 : gI T' (m_z + 22) l = gI T (m_z + 22) l) (t23 : ∀ i_z, 0 ≤ i_z → i_z < 3 → gI T' (m_z + 23) (3 * l + i_z) = gI T (m_z + 23) (3 * l + i_z) ∧ gI T' (m_z + 24) (3 * l + i_z) = gI T (m_z + 24) (3 * l + i_z)) : FrL M' T' s_z m_z r_z l tk := by
  obtain ⟨h1, h2, h3, h4, h5, h6, h7, h8⟩ := h_z
  unfold FrL lnm
  have ec : ∀ x_z, cdm T' m_z x_z = cdm T m_z x_z := fun x_z => by
    funext k
    unfold cdm
    rw [t1_z]
  rw [eR, e0_z, e1_z, e2_z, e3_z, t1_z, t17, t19, t22, ec]
  refine ⟨h1, h2, h3, h4, fun i_z i0_z i1_z => ?_, h6, fun i_z i0_z i1_z => ?_, LpO.congr (fun i_z i0_z i1_z => ((t23 i_z i0_z (by omega)).1).symm) h8⟩
  · obtain ⟨q1_z, q2_z⟩ := t20 i_z i0_z (by omega)
    rw [q1_z, q2_z]
    exact h5 i_z i0_z i1_z
  · obtain ⟨q1_z, q2_z⟩ := t23 i_z i0_z (by omega)
    rw [q1_z, q2_z]
    exact h7 i_z i0_z i1_z
/-- nothing but the machine's own rows has changed -/
def OutC (c_z : Nat) (M_z M' : Mem) : Prop := gK M' = gK M_z ∧ gN M' = gN M_z ∧ gz M' = gz M_z ∧ gs M' = gs M_z ∧ ∀ r_z : Nat, ¬ (c_z ≤ r_z ∧ r_z < c_z + 147) → gI M' r_z = gI M_z r_z ∧ gL M' r_z = gL M_z r_z ∧ gR M' r_z = gR M_z r_z
theorem OutC.refl (c_z : Nat) (M_z : Mem) : OutC c_z M_z M_z := ⟨rfl, rfl, rfl, rfl, fun _ _ => ⟨rfl, rfl, rfl⟩⟩
theorem OutC.trans {c_z : Nat} {M_z M' M'' : Mem} (h_z : OutC c_z M_z M') (h2 : OutC c_z M' M'') : OutC c_z M_z M'' := by
  obtain ⟨a1_z, a2, a3, a4, a5⟩ := h_z
  obtain ⟨b1, b2, b3, b4, b5⟩ := h2
  exact ⟨b1.trans a1_z, b2.trans a2, b3.trans a3, b4.trans a4, fun r_z q_z => ⟨(b5 r_z q_z).1.trans (a5 r_z q_z).1, (b5 r_z q_z).2.1.trans (a5 r_z q_z).2.1, (b5 r_z q_z).2.2.trans (a5 r_z q_z).2.2⟩⟩
theorem Ex.outC {P_z : Nat → Prop} {M_z M' : Mem} {c_z : Nat} (h_z : Ex P_z M_z M') (hp : ∀ r_z, P_z r_z → c_z ≤ r_z ∧ r_z < c_z + 147) : OutC c_z M_z M' := by
  obtain ⟨a1_z, a2, a3, a4, a5, a6⟩ := h_z
  exact ⟨a1_z, a2, a4, a5, fun r_z q_z => ⟨(a6 r_z (fun w_z => q_z (hp r_z w_z))).1, (a6 r_z (fun w_z => q_z (hp r_z w_z))).2, by rw [a3]⟩⟩
def OutM (m_z : Nat) (T T' : Mem) : Prop := Ex (fun r_z => m_z ≤ r_z ∧ r_z < m_z + 29 ∧ ¬ (m_z + 1 ≤ r_z ∧ r_z ≤ m_z + 3)) T T'
theorem OpF.out {G_z : Env0} {M_z M' : Mem} {c_z s_z : Nat} (h_z : OpF G_z M_z) (o : OutC c_z M_z M') (hg : ∀ i_z, (i_z < 26 ∧ i_z ≠ 2) → G_z.2 i_z < s_z) (hc_z : s_z + 5 ≤ c_z) : OpF G_z M' := by
  obtain ⟨b1, b2, b3, b4, b5⟩ := o
  obtain ⟨h1, h2⟩ := h_z
  unfold OpF
  rw [b1, b2, (b5 (G_z.2 1) (by have := hg 1 (by decide); omega)).1]
  refine ⟨h1, fun i_z hi_z => ?_⟩
  rw [(b5 (G_z.2 (3 + i_z)) (by have := hg (3 + i_z) (by omega); omega)).1]
  exact h2 i_z hi_z
theorem EdR.out {G_z : Env0} {M_z M' T T' : Mem} {c_z s_z m_z : Nat} (h_z : EdR G_z M_z T s_z m_z) (o : OutC c_z M_z M') (hc_z : s_z + 5 ≤ c_z) (hp : ∀ x_z : Int, 0 ≤ x_z → x_z < 7 → gR M_z (s_z + 1) x_z = 0 ∨ c_z + 147 ≤ gR M_z (s_z + 1) x_z) (t1_z : gI T' (m_z + 1) = gI T (m_z + 1)) : EdR G_z M' T' s_z m_z := by
  obtain ⟨b1, b2, b3, b4, b5⟩ := o
  obtain ⟨h1, h2, h3⟩ := h_z
  have es := b5 s_z (by omega)
  have e1_z := b5 (s_z + 1) (by omega)
  have e2_z := b5 (s_z + 2) (by omega)
  have e3_z := b5 (s_z + 3) (by omega)
  have e4_z := b5 (s_z + 4) (by omega)
  have ec : ∀ x_z, cdm T' m_z x_z = cdm T m_z x_z := fun x_z => by
    funext k
    unfold cdm
    rw [t1_z]
  have el : ∀ x_z, lnm T' m_z x_z = lnm T m_z x_z := fun x_z => by unfold lnm; rw [t1_z]
  refine ⟨?_, fun x_z x0_z x1_z => ?_, ?_⟩
  · unfold ShSa ShSax
    rw [b1, b2, es.2.2]
    exact h1
  · rw [el, ec, e1_z.2.2]
    rcases h2 x_z x0_z x1_z with q_z | ⟨q1_z, q2_z⟩
    · exact Or.inl q_z
    · have q3_z := q2_z.1
      have q4_z := (hp x_z x0_z x1_z).resolve_left q3_z
      exact Or.inr ⟨q1_z, PgR.fr q2_z b1 b2 ⟨(b5 _ (by omega)).2.2, (b5 _ (by omega)).2.2⟩ ⟨(b5 _ (by omega)).1, (b5 _ (by omega)).1⟩ (b5 _ (by omega)).2.1⟩
  · rw [t1_z, e2_z.1, e3_z.1, e4_z.1, es.1]
    exact h3
/-- what queries show of a run -/
def RsR (M_z T : Mem) (c_z m_z : Nat) : Prop :=
  TrR M_z T c_z m_z ∧ ItR M_z T c_z m_z ∧ gI M_z c_z 14 = gI T m_z 50 ∧ gI M_z c_z 15 = gI T m_z 46 ∧ (0 ≤ gI T m_z 46 ∧ gI T m_z 46 ≤ 6) ∧ (gI T m_z 46 ≠ 0 → gI M_z c_z 16 = gI T m_z 47 ∧ gI M_z c_z 17 = gI T m_z 48) ∧
  (gI M_z (c_z + 22) 6 = gI T (m_z + 19) 0 ∧ 0 ≤ gI M_z (c_z + 22) 6 ∧ gI M_z (c_z + 22) 6 ≤ 16) ∧ (∀ i_z : Int, 0 ≤ i_z → i_z < gI M_z (c_z + 22) 6 → OpR (gI T (m_z + 20) i_z) (gI T (m_z + 21) i_z) (gL M_z (c_z + 23) i_z)) ∧
  (0 ≤ gI M_z c_z 12 ∧ gI M_z c_z 12 < 35 ∧ gI M_z (c_z + 4) 5 ≤ 200 ∧ gI M_z (c_z + 4) 6 ≤ 800 ∧ gI T m_z 33 ≤ 200) ∧ ∀ i_z : Int, 0 ≤ i_z → i_z < 6 → NV (gL M_z (c_z + 42 + 3 * (gI M_z c_z 12).toNat + 1) i_z) ∧ gI T (m_z + 6) i_z = fu (gL M_z (c_z + 42 + 3 * (gI M_z c_z 12).toNat + 1) i_z) ∧ gI T (m_z + 6) (6 + i_z) = fd (gL M_z (c_z + 42 + 3 * (gI M_z c_z 12).toNat + 1) i_z)
theorem Rel.rs {G_z : Env0} {M_z T : Mem} {c_z s_z m_z : Nat} {E_z : Int} (h_z : Rel G_z M_z T c_z s_z m_z E_z) : RsR M_z T c_z m_z := by
  obtain ⟨hs, hm_z, ho, hsc, hed, htr, hfr, hgs, hpa, hit_z, ⟨x1_z, x2_z, x3⟩, hb_z⟩ := h_z
  have f0_z := hfr.2.1 0 hfr.1.2.1
  obtain ⟨-, -, -, f4_z, f5_z, -⟩ := f0_z
  refine ⟨htr, hit_z, x1_z, by omega, by omega, fun q_z => absurd x3 q_z, f4_z, fun i_z i0_z i1_z => ?_, ⟨hgs.2.1, hgs.2.2.1, by have := hpa.1.2; have := htr.2.2.1; omega, by have := hpa.2.1.2; have := htr.2.2.1; omega, by have := hpa.1.2; have := hpa.2.2.1.2; have := htr.2.2.1; omega⟩, hgs.2.2.2.1.1⟩
  have := f5_z i_z i0_z i1_z
  rw [show 16 * ((0 : Nat) : Int) + i_z = i_z from by omega] at this
  exact this
/-- the class ends a run with an error -/
theorem RsR.err {M_z T M' T' : Mem} {c_z m_z : Nat} (h_z : RsR M_z T c_z m_z) {e_z : Int} (he : 0 ≤ e_z ∧ e_z ≤ 6)
    (a1_z : ∀ r_z : Nat, c_z + 3 ≤ r_z → r_z < c_z + 20 → gI M' r_z = gI M_z r_z) (a2 : ∀ r_z : Nat, c_z + 42 ≤ r_z → r_z < c_z + 147 → gL M' r_z = gL M_z r_z) (a3 : gI M' (c_z + 22) 6 = gI M_z (c_z + 22) 6) (a4 : gL M' (c_z + 23) = gL M_z (c_z + 23)) (a5 : gI M' c_z 12 = gI M_z c_z 12) (a6 : gI M' c_z 13 = gI M_z c_z 13) (a7 : gI M' c_z 14 = gI M_z c_z 14) (a8 : gI M' c_z 15 = e_z)
    (b1 : ∀ r_z : Nat, m_z + 1 ≤ r_z → r_z < m_z + 26 → gI T' r_z = gI T r_z) (b2 : ∀ k_z, k_z ≠ 46 → k_z ≠ 47 → k_z ≠ 48 → k_z ≠ 16 → k_z ≠ 20 → k_z ≠ 21 → gI T' m_z k_z = gI T m_z k_z) (b3 : gI T' m_z 46 = e_z) (ab : gI M' c_z 16 = gI T' m_z 47 ∧ gI M' c_z 17 = gI T' m_z 48) : RsR M' T' c_z m_z := by
  obtain ⟨h1, h2, h3, h4, h5, h6, h7, h8, h9, h10⟩ := h_z
  have po : Pool M_z T M' T' c_z m_z := Pool.same (by rw [a1_z _ (by omega) (by omega)]) (by rw [a1_z _ (by omega) (by omega)]) (a1_z _ (by omega) (by omega)) (a1_z _ (by omega) (by omega)) (a1_z _ (by omega) (by omega)) (a1_z _ (by omega) (by omega)) (a1_z _ (by omega) (by omega)) (b2 _ (by decide) (by decide) (by decide) (by decide) (by decide) (by decide)) (b1 _ (by omega) (by omega)) (b1 _ (by omega) (by omega)) (b1 _ (by omega) (by omega)) (b1 _ (by omega) (by omega)) (b1 _ (by omega) (by omega))
  refine ⟨TrR.fr h1 a6 (a1_z _ (by omega) (by omega)) (a1_z _ (by omega) (by omega)) (a1_z _ (by omega) (by omega)) (b2 _ (by decide) (by decide) (by decide) (by decide) (by decide) (by decide)) (b1 _ (by omega) (by omega)), ItR.fr h2 po (fun r_z r0 r1_z => a1_z r_z (by omega) (by omega)) (b2 _ (by decide) (by decide) (by decide) (by decide) (by decide) (by decide)) (b1 _ (by omega) (by omega)), ?_, by omega, by omega, fun _ => ab, ?_, ?_, ?_, ?_⟩
  · rw [a7, b2 50 (by decide) (by decide) (by decide) (by decide) (by decide) (by decide)]
    exact h3
  · rw [a3, b1 (m_z + 19) (by omega) (by omega)]
    exact h7
  · rw [a3, a4, b1 (m_z + 20) (by omega) (by omega), b1 (m_z + 21) (by omega) (by omega)]
    exact h8
  · rw [a5, a1_z (c_z + 4) (by omega) (by omega), b2 33 (by decide) (by decide) (by decide) (by decide) (by decide) (by decide)]
    exact h9
  · rw [a5, b1 (m_z + 6) (by omega) (by omega), a2 _ (by omega) (by omega)]
    exact h10
