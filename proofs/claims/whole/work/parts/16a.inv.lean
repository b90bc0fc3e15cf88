/-! THE PURE PART, part 16: what holds between calls (everything from b on: X at b + 1, reader b + 2, state b + 10, saved b + 15, machine b + 16, model b + 193). Own work. -/
/-- a row of numbers as if it were the model's -/
def fkT (f_z : Int → Int) : Mem := (fun _ => 0, fun _ => 0, fun _ k_z => f_z k_z, fun _ _ => 0, fun _ _ => 0, 0, 0)
/-- a state of the class holds what a row of the model says -/
def EdRow (G : Env0) (M : Mem) (s_z : Nat) (f_z : Int → Int) : Prop := EdR G M (fkT f_z) s_z 0
theorem EdRow.iff {G : Env0} {M T : Mem} {s_z m_z : Nat} : EdR G M T s_z m_z ↔ EdRow G M s_z (gI T (m_z + 1)) := Iff.rfl
theorem scan_congr {cd cd' : Nat → Int} : ∀ {k_z : Nat}, (∀ i_z, i_z < k_z → cd' i_z = cd i_z) → scan cd' k_z = scan cd k_z
  | 0, _ => rfl
  | k_z + 1, h_z => by
    show stepF (cd' k_z) k_z (scan cd' k_z) = stepF (cd k_z) k_z (scan cd k_z)
    rw [h_z k_z (Nat.lt_succ_self k_z), scan_congr (fun i_z hi_z => h_z i_z (by omega))]
theorem PgR.congr {G : Env0} {M : Mem} {p_z n_z : Nat} {cd cd' : Nat → Int} (h_z : PgR G M p_z n_z cd) (e_z : ∀ k_z, k_z < n_z → cd' k_z = cd k_z) : PgR G M p_z n_z cd' := by
  obtain ⟨h1, h2, h3, h4, ⟨h5, h5'⟩, h6, h7⟩ := h_z
  have sc : ∀ k_z, k_z ≤ n_z → scan cd' k_z = scan cd k_z := fun k_z hk => scan_congr (fun i_z hi_z => e_z i_z (by omega))
  refine ⟨h1, h2, h3, h4, ⟨fun k_z hk => by rw [e_z k_z hk, sc k_z (by omega)]; exact h5 k_z hk, by rw [sc n_z (Nat.le_refl n_z)]; exact h5'⟩, fun i_z hi_z => by rw [e_z i_z hi_z]; exact h6 i_z hi_z, fun j_z hj h14 => ?_⟩
  rw [e_z j_z hj] at h14
  obtain ⟨q_z, q1_z, q2_z, q3_z, q4_z, q5_z⟩ := h7 j_z hj h14
  exact ⟨q_z, q1_z, q2_z, q3_z, by rw [e_z q_z q1_z]; exact q4_z, by rw [sc q_z (by omega), sc j_z (by omega)]; exact q5_z⟩
theorem EdRow.congr {G : Env0} {M : Mem} {s_z : Nat} {f_z f' : Int → Int} (h_z : EdRow G M s_z f_z) (e_z : ∀ k_z, 0 ≤ k_z → k_z < 1216 → f' k_z = f_z k_z) : EdRow G M s_z f' := by
  obtain ⟨h1, h2, h3, h4, h5, h6, h7⟩ := h_z
  refine ⟨h1, fun x_z x0_z x1_z => ?_, fun i_z i0_z i1_z => ?_, fun i_z i0_z i1_z => ?_, ?_, ?_, ?_⟩
  · have el : lnm (fkT f') 0 x_z = lnm (fkT f_z) 0 x_z := e_z (161 * x_z) (by omega) (by omega)
    rcases h2 x_z x0_z x1_z with q_z | ⟨q1_z, q2_z⟩
    · exact Or.inl (by rw [el]; exact q_z)
    · refine Or.inr ⟨by rw [el]; exact q1_z, ?_⟩
      rw [el]
      have n160 := q2_z.2.2.2.1
      exact PgR.congr q2_z (fun k_z hk => e_z (161 * x_z + 1 + (k_z : Int)) (by omega) (by omega))
  · obtain ⟨a1_z, a2, a3⟩ := h3 i_z i0_z i1_z
    refine ⟨a1_z, ?_, fun j_z j0 j1 => ?_⟩
    · rw [← a2]
      exact e_z (1127 + 5 * i_z) (by omega) (by omega)
    · obtain ⟨b1, b2⟩ := a3 j_z j0 j1
      refine ⟨?_, b2⟩
      rw [b1]
      exact (e_z (1127 + 5 * i_z + 1 + j_z) (by omega) (by omega)).symm
  · obtain ⟨a1_z, a2⟩ := h4 i_z i0_z i1_z
    refine ⟨?_, a2⟩
    rw [a1_z]
    exact (e_z (1157 + i_z) (by omega) (by omega)).symm
  · refine ⟨?_, h5.2⟩
    rw [h5.1]
    exact (e_z 1213 (by decide) (by decide)).symm
  · refine ⟨?_, h6.2⟩
    rw [h6.1]
    exact (e_z 1214 (by decide) (by decide)).symm
  · refine ⟨?_, h7.2⟩
    rw [h7.1]
    exact (e_z 1215 (by decide) (by decide)).symm
/-- a state with the same content -/
theorem EdRow.copy {G : Env0} {M M' : Mem} {s_z s' : Nat} {f_z : Int → Int} (h_z : EdRow G M s_z f_z) (sh_z : ShSa M' s') (eR : ∀ x_z, 0 ≤ x_z → x_z < 7 → gR M' (s' + 1) x_z = gR M (s_z + 1) x_z) (ep : ∀ p_z n_z cd, PgR G M p_z n_z cd → (∃ x_z, 0 ≤ x_z ∧ x_z < 7 ∧ gR M (s_z + 1) x_z = p_z) → PgR G M' p_z n_z cd) (e2_z : ∀ i_z, 0 ≤ i_z → i_z < 6 → gI M' (s' + 2) i_z = gI M (s_z + 2) i_z) (e3_z : ∀ i_z, 0 ≤ i_z → i_z < 24 → gI M' (s' + 3) i_z = gI M (s_z + 3) i_z) (e4_z : ∀ i_z, 0 ≤ i_z → i_z < 56 → gI M' (s' + 4) i_z = gI M (s_z + 4) i_z) (e0_z : ∀ j_z, j_z = 4 ∨ j_z = 5 ∨ j_z = 6 → gI M' s' j_z = gI M s_z j_z) : EdRow G M' s' f_z := by
  obtain ⟨h1, h2, h3, h4, h5, h6, h7⟩ := h_z
  refine ⟨sh_z, fun x_z x0_z x1_z => ?_, fun i_z i0_z i1_z => ?_, fun i_z i0_z i1_z => ?_, ?_, ?_, ?_⟩
  · rw [eR x_z x0_z x1_z]
    rcases h2 x_z x0_z x1_z with q_z | ⟨q1_z, q2_z⟩
    · exact Or.inl q_z
    · exact Or.inr ⟨q1_z, ep _ _ _ q2_z ⟨x_z, x0_z, x1_z, rfl⟩⟩
  · rw [e2_z i_z i0_z i1_z]
    obtain ⟨a1_z, a2, a3⟩ := h3 i_z i0_z i1_z
    exact ⟨a1_z, a2, fun j_z j0 j1 => by rw [e3_z (4 * i_z + j_z) (by omega) (by omega)]; exact a3 j_z j0 j1⟩
  · rw [e4_z i_z i0_z i1_z]
    exact h4 i_z i0_z i1_z
  · rw [e0_z 4 (by omega)]
    exact h5
  · rw [e0_z 5 (by omega)]
    exact h6
  · rw [e0_z 6 (by omega)]
    exact h7
/-- X and its reader -/
abbrev ShXx (M : Mem) (b : Nat) : Prop := gK M (b + 1) = 1 ∧ gR M (b + 1) 0 = b + 2 ∧ gR M (b + 1) 1 = b + 10 ∧ gR M (b + 1) 2 = b + 15 ∧ gR M (b + 1) 3 = b + 16 ∧ gK M (b + 15) = 113 ∧ gN M (b + 15) = 6
def ShX (M : Mem) (b : Nat) : Prop := ShXx M b
theorem ShX.u {M : Mem} {b : Nat} (h_z : ShX M b) : ShXx M b := h_z
abbrev ShRdx (M : Mem) (b : Nat) : Prop := gK M (b + 2) = 2 ∧ gR M (b + 2) 0 = b + 3 ∧ gR M (b + 2) 1 = b + 4 ∧ gR M (b + 2) 2 = b + 5 ∧ gR M (b + 2) 3 = b + 6 ∧ gR M (b + 2) 4 = b + 7 ∧ gK M (b + 3) = 100 ∧ gN M (b + 3) = 160 ∧ gK M (b + 4) = 150 ∧ gN M (b + 4) = 160 ∧ gK M (b + 5) = 101 ∧ gN M (b + 5) = 160 ∧ gK M (b + 6) = 100 ∧ gN M (b + 6) = 160 ∧ gK M (b + 7) = 3 ∧ gR M (b + 7) 0 = b + 8 ∧ gR M (b + 7) 1 = b + 9 ∧ gK M (b + 8) = 150 ∧ gN M (b + 8) = 9 ∧ gK M (b + 9) = 100 ∧ gN M (b + 9) = 9
def ShRd (M : Mem) (b : Nat) : Prop := ShRdx M b
theorem ShRd.u {M : Mem} {b : Nat} (h_z : ShRd M b) : ShRdx M b := h_z
/-- the words of the operators -/
def WdF (G : Env0) (M : Mem) : Prop := (gK M (G.2 0) = 250 ∧ gN M (G.2 0) = 23 ∧ ∀ k_z : Nat, k_z < 23 → gR M (G.2 0) (k_z : Int) = G.2 (3 + k_z)) ∧ ∀ i_z : Nat, i_z < 23 → ∃ w_z a_z : Nat, w_z ≤ G.1 ∧ a_z ≤ G.1 ∧ gR M (G.2 (3 + i_z)) 1 = w_z ∧ gK M w_z = 42 ∧ gI M w_z 1 = 0 ∧ gR M w_z 0 = a_z ∧ gK M a_z = 105 ∧ gN M a_z = ((opB i_z).length : Int) ∧ ∀ k_z : Nat, k_z < (opB i_z).length → gI M a_z (k_z : Int) = (((opB i_z).getD k_z 0 : Nat) : Int)
/-- the place of a saved state -/
def svA (b j_z : Nat) : Nat := b + 163 + 5 * j_z
/-- the programs of a state lie behind everything else -/
def PrB (M : Mem) (b s_z : Nat) : Prop := ∀ x_z : Int, 0 ≤ x_z → x_z < 7 → gR M (s_z + 1) x_z = 0 ∨ (b + 222 ≤ gR M (s_z + 1) x_z ∧ gR M (s_z + 1) x_z + 3 ≤ gz M ∧ gK M (gR M (s_z + 1) x_z) = 10)
/-- what does not change: shapes, and what nobody writes -/
def ClS (G : Env0) (M : Mem) (b : Nat) : Prop := ShX M b ∧ ShRd M b ∧ ShSa M (b + 10) ∧ (∀ j_z : Nat, j_z < 6 → ShSa M (svA b j_z)) ∧ ShMa M (b + 16) ∧ OpF G M ∧ WdF G M ∧ (∀ i_z : Nat, (i_z < 26 ∧ i_z ≠ 2) → G.2 i_z ≤ b) ∧ G.1 = b ∧ b + 221 ≤ gz M
/-- the states: n_z are saved -/
def ClE (G : Env0) (M : Mem) (b n_z : Nat) (f_z : Int → Int) (ps_z : Nat → Int → Int) : Prop := gI M (b + 1) 4 = (n_z : Int) ∧ n_z ≤ 6 ∧ (∀ i_z : Nat, i_z < 6 → ∃ j_z : Nat, j_z < 6 ∧ gR M (b + 15) (i_z : Int) = svA b j_z) ∧ (∀ i_z i' : Nat, i_z < 6 → i' < 6 → gR M (b + 15) (i_z : Int) = gR M (b + 15) (i' : Int) → i_z = i') ∧ EdRow G M (b + 10) f_z ∧ (∀ i_z : Nat, i_z < n_z → EdRow G M (gR M (b + 15) (i_z : Int)) (ps_z i_z)) ∧ PrB M b (b + 10) ∧ ∀ i_z : Nat, i_z < n_z → PrB M b (gR M (b + 15) (i_z : Int))
/-- the text -/
def ClT (M : Mem) (b : Nat) (tl : Int) (tx : Int → Int) : Prop := gI M (b + 2) 5 = tl ∧ 0 ≤ tl ∧ tl ≤ 160 ∧ ∀ i_z : Int, 0 ≤ i_z → i_z < tl → gI M (b + 3) i_z = tx i_z ∧ 1 ≤ tx i_z ∧ tx i_z ≤ 255
def MoI (M : Mem) (m_z n_z : Nat) (f_z : Int → Int) (ps_z : Nat → Int → Int) (tl : Int) (tx : Int → Int) : Prop := ShM M m_z ∧ gI M m_z 2 = (n_z : Int) ∧ gI M (m_z + 1) = f_z ∧ (∀ i_z : Nat, i_z < n_z → ∀ k_z : Int, 0 ≤ k_z → k_z < 1216 → gI M (m_z + 2) (1216 * i_z + k_z) = ps_z i_z k_z) ∧ gI M m_z 4 = tl ∧ ∀ i_z : Int, 0 ≤ i_z → i_z < tl → gI M (m_z + 3) i_z = tx i_z
def RunR (M T : Mem) (c_z m_z : Nat) : Prop := (∀ k_z, isT (gI M (c_z + 9) k_z)) ∧ ((gI M c_z 10 = 0 ∧ gI T m_z 45 = 0) ∨ (gI M c_z 10 = 1 ∧ gI T m_z 45 = 1 ∧ RsR M T c_z m_z))
def Inv (G : Env0) (M : Mem) (b : Nat) : Prop := ClS G M b ∧ ∃ (n_z : Nat) (f_z : Int → Int) (ps_z : Nat → Int → Int) (tl : Int) (tx : Int → Int), ClE G M b n_z f_z ps_z ∧ ClT M b tl tx ∧ MoI M (b + 193) n_z f_z ps_z tl tx ∧ RunR M M (b + 16) (b + 193)
/-- both sides answer a call alike, and what holds between calls holds again -/
def Same (G : Env0) (b jx jm : Nat) (as : List AV) (M : Mem) : Prop := Call G jx (a_r (b + 1) :: as) M (fun r_z M1_z => ∃ v_z : Int, r_z = some (a_i v_z) ∧ Call G jm (a_r (b + 193) :: as) M1_z (fun r2 M2_z => r2 = some (a_i v_z) ∧ Inv G M2_z b ∧ gz M ≤ gz M2_z ∧ gz M2_z ≤ gz M + 10 ∧ gs M2_z ≤ gs M + 1000))
section CA
variable {G : Env0} {M : Mem} {b jx jm : Nat} {as : List AV}
theorem same_pure {v_z : Int} (h_z : Inv G M b) (hx : ∀ Q_z : Option AV → Mem → Prop, Q_z (some (a_i v_z)) M → Call G jx (a_r (b + 1) :: as) M Q_z) (hm_z : ∀ Q_z : Option AV → Mem → Prop, Q_z (some (a_i v_z)) M → Call G jm (a_r (b + 193) :: as) M Q_z) : Same G b jx jm as M := hx _ ⟨v_z, rfl, hm_z _ ⟨rfl, h_z, Nat.le_refl _, by omega, by omega⟩⟩
end CA
