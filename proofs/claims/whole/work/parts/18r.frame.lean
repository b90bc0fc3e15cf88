/-! THE PURE PART, part 18: what a new stream leaves as it is. Own work. -/
/-- what there was stays, but for the reader's rows and the programs' row of the state -/
def Fw (b : Nat) (M M' : Mem) : Prop := gz M ≤ gz M' ∧ (∀ r_z : Nat, r_z ≤ gz M → gK M' r_z = gK M r_z) ∧ (∀ r_z : Nat, r_z ≤ gz M → gN M' r_z = gN M r_z) ∧ (∀ r_z : Nat, r_z ≤ gz M → r_z ≠ b + 2 → r_z ≠ b + 6 → r_z ≠ b + 7 → r_z ≠ b + 9 → gI M' r_z = gI M r_z) ∧ (∀ r_z : Nat, r_z ≤ gz M → r_z ≠ b + 5 → gL M' r_z = gL M r_z) ∧ ∀ r_z : Nat, r_z ≤ gz M → r_z ≠ b + 4 → r_z ≠ b + 8 → r_z ≠ b + 11 → gR M' r_z = gR M r_z
theorem Fc.fw {b : Nat} {M M' : Mem} (f_z : Fc b M M') : Fw b M M' := by
  obtain ⟨a1_z, a2, a3, a4, a5, a6, a7, a8⟩ := f_z
  exact ⟨by omega, fun r_z _ => by rw [a1_z], fun r_z _ => by rw [a2], fun r_z _ => a7 r_z, fun r_z _ => a6 r_z, fun r_z _ q1_z q2_z _ => a5 r_z q1_z q2_z⟩
section ER
variable {G : Env0} {M M' : Mem} {b : Nat}
theorem ShSa.fw {s_z : Nat} (h_z : ShSa M s_z) (f_z : Fw b M M') (h0 : b + 10 ≤ s_z) (h1 : s_z + 5 ≤ b + 193) (h2 : s_z ≠ b + 11) (hz : b + 221 ≤ gz M) : ShSa M' s_z := by
  obtain ⟨f0_z, fk, fn_z, fi, fl_z, fr_z⟩ := f_z
  unfold ShSa ShSax
  simp (disch := omega) only [fk, fn_z, fr_z]
  exact h_z
theorem ShMa.fw (h_z : ShMa M (b + 16)) (f_z : Fw b M M') (hz : b + 221 ≤ gz M) : ShMa M' (b + 16) := by
  obtain ⟨f0_z, fk, fn_z, fi, fl_z, fr_z⟩ := f_z
  obtain ⟨h1, h2, h3, h4, h5⟩ := h_z
  refine ⟨?_, ?_, ?_, fun l hl => ?_, fun t_z ht => ?_⟩
  · unfold ShM0 ShM0x
    simp (disch := omega) only [fk, fn_z, fr_z]
    exact h1
  · unfold ShPa ShPax
    simp (disch := omega) only [fk, fn_z, fr_z]
    exact h2
  · unfold ShIt ShItx
    simp (disch := omega) only [fk, fn_z, fr_z]
    exact h3
  · have q_z := h4 l hl
    unfold ShFr ShFrx
    simp (disch := omega) only [fk, fn_z, fr_z]
    exact q_z
  · have q_z := h5 t_z ht
    unfold ShGr ShGrx
    simp (disch := omega) only [fk, fn_z, fr_z]
    exact q_z
theorem ClS.fw (h_z : ClS G M b) (f_z : Fw b M M') : ClS G M' b := by
  obtain ⟨h1, h2, h3, h4, h5, h6, h7, h8, h9, hz⟩ := h_z
  have f' := f_z
  obtain ⟨f0_z, fk, fn_z, fi, fl_z, fr_z⟩ := f'
  refine ⟨?_, ?_, h3.fw f_z (by omega) (by omega) (by omega) hz, fun j_z hj => (h4 j_z hj).fw f_z (by unfold svA; omega) (by unfold svA; omega) (by unfold svA; omega) hz, h5.fw f_z hz, ?_, ?_, h8, h9, by omega⟩
  · unfold ShX ShXx
    simp (disch := omega) only [fk, fn_z, fr_z]
    exact h1
  · unfold ShRd ShRdx
    simp (disch := omega) only [fk, fn_z, fr_z]
    exact h2
  · obtain ⟨q1_z, q2_z⟩ := h6
    have g1 := h8 1 (by decide)
    unfold OpF
    rw [fk _ (by omega), fn_z _ (by omega), fi _ (by omega) (by omega) (by omega) (by omega) (by omega)]
    refine ⟨q1_z, fun i_z hi_z => ?_⟩
    have g2 := h8 (3 + i_z) (by omega)
    rw [fk _ (by omega), fi _ (by omega) (by omega) (by omega) (by omega) (by omega)]
    exact q2_z i_z hi_z
  · obtain ⟨q1_z, q2_z⟩ := h7
    have g1 := h8 0 (by decide)
    unfold WdF
    rw [fk _ (by omega), fn_z _ (by omega), fr_z _ (by omega) (by omega) (by omega) (by omega)]
    refine ⟨q1_z, fun i_z hi_z => ?_⟩
    have g2 := h8 (3 + i_z) (by omega)
    obtain ⟨w_z, a_z, w0_z, a0_z, w1_z, w2_z, w3_z, w4_z, w5, w6_z, w7_z⟩ := q2_z i_z hi_z
    refine ⟨w_z, a_z, w0_z, a0_z, ?_, ?_, ?_, ?_, ?_, ?_, fun k_z hk => ?_⟩
    · rw [fr_z _ (by omega) (by omega) (by omega) (by omega)]
      exact w1_z
    · rw [fk _ (by omega)]
      exact w2_z
    · rw [fi _ (by omega) (by omega) (by omega) (by omega) (by omega)]
      exact w3_z
    · rw [fr_z _ (by omega) (by omega) (by omega) (by omega)]
      exact w4_z
    · rw [fk _ (by omega)]
      exact w5
    · rw [fn_z _ (by omega)]
      exact w6_z
    · rw [fi _ (by omega) (by omega) (by omega) (by omega) (by omega)]
      exact w7_z k_z hk
theorem PgR.fw {p_z n_z : Nat} {cd : Nat → Int} (h_z : PgR G M p_z n_z cd) (f_z : Fw b M M') (h0 : b + 222 ≤ p_z) (h1 : p_z + 3 ≤ gz M) : PgR G M' p_z n_z cd := by
  obtain ⟨f0_z, fk, fn_z, fi, fl_z, fr_z⟩ := f_z
  obtain ⟨q1_z, q2_z, q3_z, q4_z, q5_z, q6_z, q7_z⟩ := h_z
  have i0_z := fi p_z (by omega) (by omega) (by omega) (by omega) (by omega)
  have i3_z := fi (p_z + 3) (by omega) (by omega) (by omega) (by omega) (by omega)
  have l2 := fl_z (p_z + 2) (by omega) (by omega)
  have r1_z := fr_z (p_z + 1) (by omega) (by omega) (by omega) (by omega)
  unfold PgR
  rw [i0_z, i3_z, l2, r1_z]
  refine ⟨q1_z, ?_, q3_z, q4_z, q5_z, q6_z, q7_z⟩
  unfold ShPg ShPgx at q2_z ⊢
  simp (disch := omega) only [fk, fn_z, fr_z, i0_z]
  exact q2_z
theorem EdRow.fw {s_z : Nat} {g_z : Int → Int} (h_z : EdRow G M s_z g_z) (f_z : Fw b M M') (hp : PrB M b s_z) (s0_z : b + 10 ≤ s_z) (s1_z : s_z + 5 ≤ b + 193) (s2_z : s_z ≠ b + 11) (hr : gR M' (s_z + 1) = gR M (s_z + 1)) (hz : b + 221 ≤ gz M) : EdRow G M' s_z g_z ∧ PrB M' b s_z := by
  have f' := f_z
  obtain ⟨f0_z, fk, fn_z, fi, fl_z, fr_z⟩ := f'
  have ei : ∀ a_z, b + 10 ≤ a_z → a_z < b + 193 → gI M' a_z = gI M a_z := fun a_z a0_z a1_z => fi a_z (by omega) (by omega) (by omega) (by omega) (by omega)
  refine ⟨EdRow.copy h_z (h_z.1.fw f_z s0_z s1_z s2_z hz) (fun x_z _ _ => by rw [hr]) (fun p_z n_z cd q_z ⟨x_z, x0_z, x1_z, x2_z⟩ => ?_) (fun i_z _ _ => by rw [ei _ (by omega) (by omega)]) (fun i_z _ _ => by rw [ei _ (by omega) (by omega)]) (fun i_z _ _ => by rw [ei _ (by omega) (by omega)]) (fun j_z _ => by rw [ei _ (by omega) (by omega)]), fun x_z x0_z x1_z => ?_⟩
  · have q1_z := q_z.1
    rcases hp x_z x0_z x1_z with y_z | y_z
    · omega
    · exact q_z.fw f_z (by omega) (by omega)
  · rw [hr]
    rcases hp x_z x0_z x1_z with y_z | ⟨y1, y2, y3⟩
    · exact Or.inl y_z
    · exact Or.inr ⟨y1, by omega, by rw [fk _ (by omega)]; exact y3⟩
/-- the states, but for the present one -/
theorem ClE.fw {n_z : Nat} {g_z g' : Int → Int} {ps_z : Nat → Int → Int} (h_z : ClE G M b n_z g_z ps_z) (f_z : Fw b M M') (hz : b + 221 ≤ gz M) (h2 : EdRow G M' (b + 10) g' ∧ PrB M' b (b + 10)) : ClE G M' b n_z g' ps_z := by
  obtain ⟨e1_z, e2_z, e3_z, e4_z, e5_z, e6_z, e7_z, e8⟩ := h_z
  have f' := f_z
  obtain ⟨f0_z, fk, fn_z, fi, fl_z, fr_z⟩ := f'
  have r15 := fr_z (b + 15) (by omega) (by omega) (by omega) (by omega)
  have i1_z := fi (b + 1) (by omega) (by omega) (by omega) (by omega) (by omega)
  have kk : ∀ i_z : Nat, i_z < n_z → EdRow G M' (gR M (b + 15) (i_z : Int)) (ps_z i_z) ∧ PrB M' b (gR M (b + 15) (i_z : Int)) := fun i_z hi_z => by
    obtain ⟨j_z, j6_z, hj⟩ := e3_z i_z (by omega)
    have q1_z := e6_z i_z hi_z
    have q2_z := e8 i_z hi_z
    rw [hj] at q1_z q2_z ⊢
    exact q1_z.fw f_z q2_z (by unfold svA; omega) (by unfold svA; omega) (by unfold svA; omega) (fr_z _ (by unfold svA; omega) (by unfold svA; omega) (by unfold svA; omega) (by unfold svA; omega)) hz
  unfold ClE
  rw [r15, i1_z]
  exact ⟨e1_z, e2_z, e3_z, e4_z, h2.1, fun i_z hi_z => (kk i_z hi_z).1, h2.2, fun i_z hi_z => (kk i_z hi_z).2⟩
theorem MoI.fw {n_z : Nat} {g_z : Int → Int} {ps_z : Nat → Int → Int} {tl : Int} {tx : Int → Int} (h_z : MoI M (b + 193) n_z g_z ps_z tl tx) (f_z : Fw b M M') (hz : b + 221 ≤ gz M) (hk : ∀ r_z, r_z ≤ b + 193 + 28 → r_z ≤ gz M) : MoI M' (b + 193) n_z g_z ps_z tl tx := by
  obtain ⟨f0_z, fk, fn_z, fi, fl_z, fr_z⟩ := f_z
  obtain ⟨a1_z, a2, a3, a4, a5, a6⟩ := h_z
  have e_z : ∀ a_z, b + 193 ≤ a_z → a_z ≤ b + 221 → gI M' a_z = gI M a_z := fun a_z a0_z a1_z => fi a_z (by omega) (by omega) (by omega) (by omega) (by omega)
  refine ⟨?_, by rw [e_z _ (by omega) (by omega)]; exact a2, by rw [e_z _ (by omega) (by omega)]; exact a3, fun i_z hi_z k_z k0_z k1_z => by rw [e_z _ (by omega) (by omega)]; exact a4 i_z hi_z k_z k0_z k1_z, by rw [e_z _ (by omega) (by omega)]; exact a5, fun i_z i0_z i1_z => by rw [e_z _ (by omega) (by omega)]; exact a6 i_z i0_z i1_z⟩
  clear e_z a2 a3 a4 a5 a6 fi fl_z
  unfold ShM ShMx
  simp (disch := omega) only [fk, fn_z, fr_z]
  exact a1_z
theorem RunR.fw (h_z : RunR M M (b + 16) (b + 193)) (f_z : Fw b M M') (hz : b + 221 ≤ gz M) : RunR M' M' (b + 16) (b + 193) := by
  obtain ⟨f0_z, fk, fn_z, fi, fl_z, fr_z⟩ := f_z
  exact RunR.same h_z (fun r_z r0 r1_z => ⟨fi r_z (by omega) (by omega) (by omega) (by omega) (by omega), fl_z r_z (by omega) (by omega)⟩) (fun r_z r0 r1_z => fi r_z (by omega) (by omega) (by omega) (by omega) (by omega)) (fun j_z _ => by rw [fi _ (by omega) (by omega) (by omega) (by omega) (by omega)])
/-- what the reader alone changes -/
theorem Inv.fc (h_z : Inv G M b) (f_z : Fc b M M') : Inv G M' b := by
  obtain ⟨hS_z, n_z, g_z, ps_z, tl, tx, hE, hT_z, hM_z, hR⟩ := h_z
  have hz : b + 221 ≤ gz M := hS_z.2.2.2.2.2.2.2.2.2
  refine ⟨hS_z.fw f_z.fw, n_z, g_z, ps_z, tl, tx, hE.fw f_z.fw hz (hE.2.2.2.2.1.fw f_z.fw hE.2.2.2.2.2.2.1 (by omega) (by omega) (by omega) (f_z.2.2.2.2.1 _ (by omega) (by omega)) hz), ?_, hM_z.fw f_z.fw hz (fun r_z hr => by omega), hR.fw f_z.fw hz⟩
  obtain ⟨q1_z, q2_z, q3_z, q4_z⟩ := hT_z
  obtain ⟨a1_z, a2, a3, a4, a5, a6, a7, a8⟩ := f_z
  exact ⟨by rw [a8 5 (by decide)]; exact q1_z, q2_z, q3_z, fun i_z i0_z i1_z => by rw [a7 (b + 3) (by omega) (by omega) (by omega) (by omega)]; exact q4_z i_z i0_z i1_z⟩
theorem Fs.outT (f_z : Fs (b + 193) M M') : OutT b M M' := by
  obtain ⟨a1_z, a2, a3, a4, a5, a6, a7, a8⟩ := f_z
  exact ⟨a1_z, a2, a3, a5, a6, fun r_z hr => ⟨a7 r_z (by omega) (by omega) (by omega), by rw [a4]⟩⟩
theorem MoI.fs {m_z n_z : Nat} {g_z : Int → Int} {ps_z : Nat → Int → Int} {tl : Int} {tx : Int → Int} (h_z : MoI M m_z n_z g_z ps_z tl tx) (f_z : Fs m_z M M') : MoI M' m_z n_z g_z ps_z tl tx := by
  obtain ⟨f1_z, f2_z, f3_z, f4_z, f5_z, f6_z, f7_z, f8_z⟩ := f_z
  obtain ⟨a1_z, a2, a3, a4, a5, a6⟩ := h_z
  refine ⟨?_, by rw [f8_z 2 (by decide)]; exact a2, by rw [f7_z _ (by omega) (by omega) (by omega)]; exact a3, fun i_z hi_z k_z k0_z k1_z => by rw [f7_z _ (by omega) (by omega) (by omega)]; exact a4 i_z hi_z k_z k0_z k1_z, by rw [f8_z 4 (by decide)]; exact a5, fun i_z i0_z i1_z => by rw [f7_z _ (by omega) (by omega) (by omega)]; exact a6 i_z i0_z i1_z⟩
  unfold ShM ShMx at a1_z ⊢
  rw [f1_z, f2_z, f3_z]
  exact a1_z
theorem RunR.fs (h_z : RunR M M (b + 16) (b + 193)) (f_z : Fs (b + 193) M M') : RunR M' M' (b + 16) (b + 193) := by
  obtain ⟨f1_z, f2_z, f3_z, f4_z, f5_z, f6_z, f7_z, f8_z⟩ := f_z
  exact RunR.same h_z (fun r_z r0 r1_z => ⟨f7_z r_z (by omega) (by omega) (by omega), by rw [f4_z]⟩) (fun r_z r0 r1_z => f7_z r_z (by omega) (by omega) (by omega)) (fun j_z hj => f8_z j_z (by omega))
/-- what the model's reading alone changes -/
theorem Inv.fs (h_z : Inv G M b) (f_z : Fs (b + 193) M M') : Inv G M' b := by
  obtain ⟨hS_z, n_z, g_z, ps_z, tl, tx, hE, hT_z, hM_z, hR⟩ := h_z
  refine ⟨hS_z.outT f_z.outT, n_z, g_z, ps_z, tl, tx, hE.outT f_z.outT, ?_, hM_z.fs f_z, hR.fs f_z⟩
  obtain ⟨q1_z, q2_z, q3_z, q4_z⟩ := hT_z
  have e2_z := f_z.2.2.2.2.2.2.1 (b + 2) (by omega) (by omega) (by omega)
  have e3_z := f_z.2.2.2.2.2.2.1 (b + 3) (by omega) (by omega) (by omega)
  exact ⟨by rw [e2_z]; exact q1_z, q2_z, q3_z, fun i_z i0_z i1_z => by rw [e3_z]; exact q4_z i_z i0_z i1_z⟩
end ER
