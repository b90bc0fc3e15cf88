/-! THE PURE PART, part 16: an edit, both sides. Own work. -/
theorem RsR.same {M T M' T' : Mem} {c_z m_z : Nat} (h_z : RsR M T c_z m_z) (a_z : ∀ r_z, c_z ≤ r_z → r_z < c_z + 147 → gI M' r_z = gI M r_z ∧ gL M' r_z = gL M r_z) (b : ∀ r_z, m_z + 6 ≤ r_z → r_z < m_z + 29 → gI T' r_z = gI T r_z) (d_z : ∀ j_z, j_z = 33 ∨ j_z = 35 ∨ 45 ≤ j_z → gI T' m_z j_z = gI T m_z j_z) : RsR M' T' c_z m_z := by
  obtain ⟨h1, h2, h3, h4, h5, h6, h7, h8, h9, h10⟩ := h_z
  have e_z : ∀ r_z, c_z ≤ r_z → r_z < c_z + 147 → gI M' r_z = gI M r_z := fun r_z r0 r1_z => (a_z r_z r0 r1_z).1
  have ec := e_z c_z (by omega) (by omega)
  have po : Pool M T M' T' c_z m_z := Pool.same (by rw [e_z _ (by omega) (by omega)]) (by rw [e_z _ (by omega) (by omega)]) (e_z _ (by omega) (by omega)) (e_z _ (by omega) (by omega)) (e_z _ (by omega) (by omega)) (e_z _ (by omega) (by omega)) (e_z _ (by omega) (by omega)) (d_z _ (by omega)) (b _ (by omega) (by omega)) (b _ (by omega) (by omega)) (b _ (by omega) (by omega)) (b _ (by omega) (by omega)) (b _ (by omega) (by omega))
  refine ⟨TrR.fr h1 (by rw [ec]) (e_z _ (by omega) (by omega)) (e_z _ (by omega) (by omega)) (e_z _ (by omega) (by omega)) (d_z _ (by omega)) (b _ (by omega) (by omega)), ItR.fr h2 po (fun r_z r0 r1_z => e_z r_z (by omega) (by omega)) (d_z _ (by omega)) (b _ (by omega) (by omega)), ?_, ?_, ?_, ?_, ?_, ?_, ?_, ?_⟩
  · rw [ec, d_z 50 (by omega)]; exact h3
  · rw [ec, d_z 46 (by omega)]; exact h4
  · rw [d_z 46 (by omega)]; exact h5
  · rw [ec, d_z 46 (by omega), d_z 47 (by omega), d_z 48 (by omega)]; exact h6
  · rw [e_z (c_z + 22) (by omega) (by omega), b (m_z + 19) (by omega) (by omega)]; exact h7
  · rw [e_z (c_z + 22) (by omega) (by omega), (a_z (c_z + 23) (by omega) (by omega)).2, b (m_z + 20) (by omega) (by omega), b (m_z + 21) (by omega) (by omega)]; exact h8
  · rw [ec, e_z (c_z + 4) (by omega) (by omega), d_z 33 (by omega)]; exact h9
  · rw [ec, b (m_z + 6) (by omega) (by omega), (a_z _ (by omega) (by omega)).2]; exact h10
theorem RunR.same {M T M' T' : Mem} {c_z m_z : Nat} (h_z : RunR M T c_z m_z) (a_z : ∀ r_z, c_z ≤ r_z → r_z < c_z + 147 → gI M' r_z = gI M r_z ∧ gL M' r_z = gL M r_z) (b : ∀ r_z, m_z + 6 ≤ r_z → r_z < m_z + 29 → gI T' r_z = gI T r_z) (d_z : ∀ j_z, j_z = 33 ∨ j_z = 35 ∨ 45 ≤ j_z → gI T' m_z j_z = gI T m_z j_z) : RunR M' T' c_z m_z := by
  obtain ⟨h1, h2⟩ := h_z
  refine ⟨fun k_z => by rw [(a_z (c_z + 9) (by omega) (by omega)).1]; exact h1 k_z, ?_⟩
  rw [(a_z c_z (by omega) (by omega)).1, d_z 45 (by omega)]
  rcases h2 with q_z | ⟨q1_z, q2_z, q3_z⟩
  · exact Or.inl q_z
  · exact Or.inr ⟨q1_z, q2_z, q3_z.same a_z b d_z⟩
section CF
variable {G : Env0} {M : Mem} {b : Nat}
/-- the model's rows alone -/
def OutT (b : Nat) (M M' : Mem) : Prop := Ex (fun r_z => b + 193 ≤ r_z ∧ r_z < b + 222) M M'
theorem EdRow.outT {M' : Mem} {s_z : Nat} {f_z : Int → Int} (h_z : EdRow G M s_z f_z) (o : OutT b M M') (hp : PrB M b s_z) (hs : s_z + 5 ≤ b + 193) : EdRow G M' s_z f_z ∧ PrB M' b s_z := by
  obtain ⟨o1, o2, o3_z, o4_z, o5_z, o6⟩ := o
  have e_z : ∀ a_z, a_z < b + 193 → gI M' a_z = gI M a_z := fun a_z ha_z => (o6 a_z (by omega)).1
  refine ⟨EdRow.copy h_z ?_ (fun x_z _ _ => by rw [o3_z]) (fun p_z n_z cd q_z ⟨x_z, x0_z, x1_z, x2_z⟩ => ?_) (fun i_z _ _ => by rw [e_z _ (by omega)]) (fun i_z _ _ => by rw [e_z _ (by omega)]) (fun i_z _ _ => by rw [e_z _ (by omega)]) (fun j_z _ => by rw [e_z _ (by omega)]), ?_⟩
  · have q_z := h_z.1
    unfold ShSa ShSax at q_z ⊢
    rw [o1, o2, o3_z]
    exact q_z
  · have hp0 : b + 222 ≤ p_z := by
      have q1_z := q_z.1
      rcases hp x_z x0_z x1_z with y_z | y_z
      · omega
      · omega
    exact PgR.fr q_z o1 o2 ⟨by rw [o3_z], by rw [o3_z]⟩ ⟨(o6 p_z (by omega)).1, (o6 (p_z + 3) (by omega)).1⟩ (o6 (p_z + 2) (by omega)).2
  · unfold PrB
    rw [o1, o3_z, o4_z]
    exact hp
theorem ClS.outT {M' : Mem} (h_z : ClS G M b) (o : OutT b M M') : ClS G M' b := by
  obtain ⟨h1, h2, h3, h4, h5, h6, h7, h8, h9, h10⟩ := h_z
  obtain ⟨o1, o2, o3_z, o4_z, o5_z, o6⟩ := o
  have e_z : ∀ a_z, a_z < b + 193 → gI M' a_z = gI M a_z := fun a_z ha_z => (o6 a_z (by omega)).1
  refine ⟨?_, ?_, ?_, fun j_z hj => ?_, ?_, ?_, ?_, h8, h9, by omega⟩
  · unfold ShX ShXx at h1 ⊢
    rw [o1, o2, o3_z]
    exact h1
  · unfold ShRd ShRdx at h2 ⊢
    rw [o1, o2, o3_z]
    exact h2
  · unfold ShSa ShSax at h3 ⊢
    rw [o1, o2, o3_z]
    exact h3
  · have q_z := h4 j_z hj
    unfold ShSa ShSax at q_z ⊢
    rw [o1, o2, o3_z]
    exact q_z
  · unfold ShMa ShM0 ShM0x ShPa ShPax ShIt ShItx ShFr ShFrx ShGr ShGrx
    rw [o1, o2, o3_z]
    exact h5
  · obtain ⟨q1_z, q2_z⟩ := h6
    unfold OpF
    rw [o1, o2, e_z (G.2 1) (by have := h8 1 (by decide); omega)]
    refine ⟨q1_z, fun i_z hi_z => ?_⟩
    rw [e_z (G.2 (3 + i_z)) (by have := h8 (3 + i_z) (by omega); omega)]
    exact q2_z i_z hi_z
  · obtain ⟨q1_z, q2_z⟩ := h7
    unfold WdF
    rw [o1, o2, o3_z]
    refine ⟨q1_z, fun i_z hi_z => ?_⟩
    obtain ⟨w_z, a_z, w0_z, a0_z, w1_z, w2_z, w3_z, w4_z, w5, w6_z, w7_z⟩ := q2_z i_z hi_z
    exact ⟨w_z, a_z, w0_z, a0_z, w1_z, w2_z, by rw [e_z w_z (by omega)]; exact w3_z, w4_z, w5, w6_z, fun k_z hk => by rw [e_z a_z (by omega)]; exact w7_z k_z hk⟩
theorem ClE.outT {M' : Mem} {n_z : Nat} {f_z : Int → Int} {ps_z : Nat → Int → Int} (h_z : ClE G M b n_z f_z ps_z) (o : OutT b M M') : ClE G M' b n_z f_z ps_z := by
  obtain ⟨e1_z, e2_z, e3_z, e4_z, e5_z, e6_z, e7_z, e8⟩ := h_z
  have o' := o
  obtain ⟨o1, o2, o3_z, o4_z, o5_z, o6⟩ := o'
  have k_z := EdRow.outT e5_z o e7_z (by omega)
  have kk : ∀ i_z : Nat, i_z < n_z → EdRow G M' (gR M (b + 15) (i_z : Int)) (ps_z i_z) ∧ PrB M' b (gR M (b + 15) (i_z : Int)) := fun i_z hi_z => by
    obtain ⟨j_z, j6_z, hj⟩ := e3_z i_z (by omega)
    exact EdRow.outT (e6_z i_z hi_z) o (e8 i_z hi_z) (by rw [hj]; unfold svA; omega)
  unfold ClE
  rw [o3_z, (o6 (b + 1) (by omega)).1]
  exact ⟨e1_z, e2_z, e3_z, e4_z, k_z.1, fun i_z hi_z => (kk i_z hi_z).1, k_z.2, fun i_z hi_z => (kk i_z hi_z).2⟩
/-- the state written, the saved ones as they are -/
theorem ClE.put {M' : Mem} {n_z : Nat} {f_z f' : Int → Int} {ps_z : Nat → Int → Int} (hS_z : ClS G M b) (h_z : ClE G M b n_z f_z ps_z) (o : OutS b M M') (eR : gR M' = gR M) (eI : ∀ a_z, ¬ (b + 10 ≤ a_z ∧ a_z ≤ b + 14) → gI M' a_z = gI M a_z) (hf : EdRow G M' (b + 10) f') : ClS G M' b ∧ ClE G M' b n_z f' ps_z := by
  have o' := o
  obtain ⟨o1, o2, o3_z, o4_z, o5_z⟩ := o'
  obtain ⟨e1_z, e2_z, e3_z, e4_z, e5_z, e6_z, e7_z, e8⟩ := h_z
  have kk : ∀ i_z : Nat, i_z < n_z → EdRow G M' (gR M (b + 15) (i_z : Int)) (ps_z i_z) ∧ PrB M' b (gR M (b + 15) (i_z : Int)) := fun i_z hi_z => by
    obtain ⟨j_z, j6_z, hj⟩ := e3_z i_z (by omega)
    refine EdRow.keep (e6_z i_z hi_z) o (e8 i_z hi_z) (fun a_z a0_z a1_z => ⟨eI a_z ?_, by rw [eR]⟩)
    rw [hj] at a0_z
    unfold svA at a0_z
    omega
  refine ⟨hS_z.outS o ?_ hf.1 (fun j_z hj => ?_), ?_⟩
  · have q_z := hS_z.1
    unfold ShX ShXx at q_z ⊢
    rw [o1, o2, eR]
    exact q_z
  · have q_z := hS_z.2.2.2.1 j_z hj
    unfold ShSa ShSax at q_z ⊢
    rw [o1, o2, eR]
    exact q_z
  · unfold ClE PrB
    rw [eR, eI (b + 1) (by omega), o1, o3_z]
    exact ⟨e1_z, e2_z, e3_z, e4_z, hf, fun i_z hi_z => (kk i_z hi_z).1, e7_z, e8⟩
/-- the end of an edit -/
theorem inv_edit {M1_z M2_z : Mem} {n' : Nat} {f' : Int → Int} {ps' : Nat → Int → Int} {tl : Int} {tx : Int → Int} (hT_z : ClT M b tl tx) (hR : RunR M M (b + 16) (b + 193)) (o : OutS b M M1_z) (hS1 : ClS G M1_z b) (hE1 : ClE G M1_z b n' f' ps') (oT : Ex (fun r_z => r_z = b + 193 ∨ r_z = b + 193 + 1 ∨ r_z = b + 193 + 2) M1_z M2_z) (eF : ∀ j_z, j_z ≠ 2 → gI M2_z (b + 193) j_z = gI M1_z (b + 193) j_z) (hM_z : MoI M2_z (b + 193) n' f' ps' tl tx) : Inv G M2_z b ∧ gz M2_z = gz M ∧ gs M2_z = gs M := by
  have oT' : OutT b M1_z M2_z := oT.mono (fun a_z ha_z => by omega)
  obtain ⟨o1, o2, o3_z, o4_z, o5_z⟩ := o
  obtain ⟨t1_z, t2_z, t3_z, t4_z, t5_z, t6⟩ := oT
  have row_z : ∀ a_z, (a_z < b + 10 ∧ a_z ≠ b + 1) ∨ (b + 16 ≤ a_z ∧ a_z < b + 163) ∨ b + 193 + 3 ≤ a_z → gI M2_z a_z = gI M a_z ∧ gL M2_z a_z = gL M a_z := fun a_z ha_z => by
    have q_z := o5_z a_z (by omega) (by omega) (by omega)
    have q2_z := t6 a_z (by omega)
    exact ⟨q2_z.1.trans q_z.1, q2_z.2.trans q_z.2.1⟩
  have fm : ∀ j_z, j_z ≠ 2 → gI M2_z (b + 193) j_z = gI M (b + 193) j_z := fun j_z q_z => by rw [eF j_z q_z, (o5_z (b + 193) (by omega) (by omega) (by omega)).1]
  refine ⟨⟨hS1.outT oT', n', f', ps', tl, tx, hE1.outT oT', ?_, hM_z, hR.same (fun r_z r0 r1_z => row_z r_z (by omega)) (fun r_z r0 r1_z => (row_z r_z (by omega)).1) (fun j_z hj => fm j_z (by omega))⟩, by rw [t4_z, o3_z], by rw [t5_z, o4_z]⟩
  obtain ⟨q1_z, q2_z, q3_z, q4_z⟩ := hT_z
  refine ⟨?_, q2_z, q3_z, fun i_z i0_z i1_z => ?_⟩
  · rw [(row_z (b + 2) (by omega)).1]
    exact q1_z
  · rw [(row_z (b + 3) (by omega)).1]
    exact q4_z i_z i0_z i1_z
/-- the model's part, when the class's states change -/
theorem MoI.outS {M1_z : Mem} {n_z : Nat} {f_z : Int → Int} {ps_z : Nat → Int → Int} {tl : Int} {tx : Int → Int} (h_z : MoI M (b + 193) n_z f_z ps_z tl tx) (o : OutS b M M1_z) : MoI M1_z (b + 193) n_z f_z ps_z tl tx := by
  obtain ⟨o1, o2, o3_z, o4_z, o5_z⟩ := o
  obtain ⟨a1_z, a2, a3, a4, a5, a6⟩ := h_z
  have e_z : ∀ a_z, b + 193 ≤ a_z → gI M1_z a_z = gI M a_z := fun a_z ha_z => (o5_z a_z (by omega) (by omega) (by omega)).1
  have er : gR M1_z (b + 193) = gR M (b + 193) := (o5_z _ (by omega) (by omega) (by omega)).2.2
  refine ⟨?_, by rw [e_z _ (by omega)]; exact a2, by rw [e_z _ (by omega)]; exact a3, fun i_z hi_z k_z k0_z k1_z => by rw [e_z _ (by omega)]; exact a4 i_z hi_z k_z k0_z k1_z, by rw [e_z _ (by omega)]; exact a5, fun i_z i0_z i1_z => by rw [e_z _ (by omega)]; exact a6 i_z i0_z i1_z⟩
  unfold ShM ShMx at a1_z ⊢
  rw [o1, o2, er]
  exact a1_z
/-- .. and when its own row is written -/
theorem MoI.put {m_z n_z : Nat} {M' : Mem} {f_z f' : Int → Int} {ps_z : Nat → Int → Int} {tl : Int} {tx : Int → Int} (h_z : MoI M m_z n_z f_z ps_z tl tx) (o : Ex (fun r_z => r_z = m_z + 1) M M') (hf : gI M' (m_z + 1) = f') : MoI M' m_z n_z f' ps_z tl tx := by
  obtain ⟨a1_z, a2, a3, a4, a5, a6⟩ := h_z
  have e_z : ∀ a_z, a_z ≠ m_z + 1 → gI M' a_z = gI M a_z := fun a_z ha_z => (o.2.2.2.2.2 a_z ha_z).1
  exact ⟨Ex.sh o a1_z, by rw [e_z _ (by omega)]; exact a2, hf, fun i_z hi_z k_z k0_z k1_z => by rw [e_z _ (by omega)]; exact a4 i_z hi_z k_z k0_z k1_z, by rw [e_z _ (by omega)]; exact a5, fun i_z i0_z i1_z => by rw [e_z _ (by omega)]; exact a6 i_z i0_z i1_z⟩
end CF
