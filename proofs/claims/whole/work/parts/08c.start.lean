/-! THE START, part 8: what is apart, the kinds. Own work. -/
def allI (s_z : State) (a_z : Nat) : Prop := ∃ cl_z : Cell, s_z.heap[a_z]? = some cl_z ∧ ∀ (k_z : Nat) (v_z : Value), cl_z.slots[k_z]? = some v_z → ∃ z_z, v_z = .int z_z
def allR (s_z : State) (a_z : Nat) : Prop := ∃ cl_z : Cell, s_z.heap[a_z]? = some cl_z ∧ ∀ (k_z : Nat) (v_z : Value), cl_z.slots[k_z]? = some v_z → ∃ w_z, v_z = .ref w_z
def hasI (s_z : State) (a_z : Nat) : Prop := ∃ (cl_z : Cell) (k_z : Nat) (z_z : Int32), s_z.heap[a_z]? = some cl_z ∧ cl_z.slots[k_z]? = some (.int z_z)
def hasR (s_z : State) (a_z : Nat) : Prop := ∃ (cl_z : Cell) (k_z w_z : Nat), s_z.heap[a_z]? = some cl_z ∧ cl_z.slots[k_z]? = some (.ref w_z)
section CS
variable {s : State} {b L : Nat} {xs : Nat → Int32}
theorem no_ir {a_z : Nat} (h1 : allI s a_z) (h2 : hasR s a_z) : False := by
  obtain ⟨cl_z, g1, g2⟩ := h1
  obtain ⟨cl', k_z, w_z, q1_z, q2_z⟩ := h2
  rw [g1] at q1_z
  cases q1_z
  obtain ⟨z_z, hz⟩ := g2 k_z _ q2_z
  cases hz
theorem no_ri {a_z : Nat} (h1 : allR s a_z) (h2 : hasI s a_z) : False := by
  obtain ⟨cl_z, g1, g2⟩ := h1
  obtain ⟨cl', k_z, w_z, q1_z, q2_z⟩ := h2
  rw [g1] at q1_z
  cases q1_z
  obtain ⟨z_z, hz⟩ := g2 k_z _ q2_z
  cases hz
theorem sv_of {i_z a_z : Nat} (h_z : (tvT i_z).eval #[Value.ref b] s none [] s = some (.ref a_z)) : svS s b i_z = a_z + 1 := by
  show encV ((tvT i_z).eval #[Value.ref b] s none [] s) = a_z + 1
  rw [h_z]
  rfl
theorem wd_of {i_z a_z : Nat} (h_z : (wdT i_z).eval #[Value.ref b] s none [] s = some (.ref a_z)) : wdS s b i_z = a_z + 1 := by
  show encV ((wdT i_z).eval #[Value.ref b] s none [] s) = a_z + 1
  rw [h_z]
  rfl
theorem by_of {i_z a_z : Nat} (h_z : (byT i_z).eval #[Value.ref b] s none [] s = some (.ref a_z)) : byS s b i_z = a_z + 1 := by
  show encV ((byT i_z).eval #[Value.ref b] s none [] s) = a_z + 1
  rw [h_z]
  rfl
theorem p_b (hX : va_X b L xs s s.heap) : allI s b := by
  obtain ⟨cl_z, g1, g2, g3_z, g4, g5_z⟩ := hX
  refine ⟨cl_z, g1, fun k_z v_z hv => ?_⟩
  have hk := (Array.getElem?_eq_some_iff.mp hv).1
  rw [g5_z k_z (by omega)] at hv
  cases hv
  exact ⟨_, rfl⟩
theorem p_ops (hs : ∀ w_z ∈ nwN, w_z.before #[Value.ref b] s = true) : ∃ a_z, svS s b 0 = a_z + 1 ∧ allR s a_z ∧ hasR s a_z := by
  obtain ⟨a_z, cl_z, g1, g2, g3_z, g4, g5_z, g6, g7⟩ := f_ops hs
  refine ⟨a_z, sv_of g1, ⟨cl_z, g2, fun k_z v_z hv => ?_⟩, ?_⟩
  · have hk := (Array.getElem?_eq_some_iff.mp hv).1
    obtain ⟨w_z, q1_z, -⟩ := g7 k_z (by omega)
    rw [q1_z] at hv
    cases hv
    exact ⟨_, rfl⟩
  · obtain ⟨w_z, q1_z, -⟩ := g7 0 (by omega)
    exact ⟨cl_z, 0, w_z, g2, q1_z⟩
theorem p_sw (hs : ∀ w ∈ nwN, w.before #[Value.ref b] s = true) : ∃ a_z, svS s b 1 = a_z + 1 ∧ allI s a_z := by
  obtain ⟨a_z, cl_z, g1, g2, g3_z, g4, g5_z, g6⟩ := f_sw hs
  refine ⟨a_z, sv_of g1, cl_z, g2, fun k_z v_z hv => ?_⟩
  have hk := (Array.getElem?_eq_some_iff.mp hv).1
  rw [g6 k_z (by omega)] at hv
  cases hv
  exact ⟨_, rfl⟩
theorem p_op (hs : ∀ w_z ∈ nwN, w_z.before #[Value.ref b] s = true) (i_z : Nat) (hi_z : i_z < 23) : ∃ a_z, svS s b (3 + i_z) = a_z + 1 ∧ hasI s a_z ∧ hasR s a_z ∧ ∃ cl_z : Cell, s.heap[a_z]? = some cl_z ∧ s.vm.findClass (rR 40) = some cl_z.cls := by
  obtain ⟨a_z, cl_z, g1, g2, g3_z, g4⟩ := f_op hs i_z hi_z
  obtain ⟨w_z, q1_z, q2_z⟩ := f_opw hs i_z hi_z
  obtain ⟨a1_z, cf_z, kf, fi, fd_z, cl1, r1_z, r2, r3, r4, r5_z, r6, r7⟩ := t_fld q1_z
  rw [g1] at r1_z
  cases r1_z
  obtain ⟨a2, cf2, kf2, fi2, fd2, cl2, u1_z, u2_z, u3, u4_z, u5, u6, u7⟩ := t_fld (f_opn hs i_z hi_z 0 (by decide))
  rw [g1] at u1_z
  cases u1_z
  exact ⟨a_z, sv_of g1, ⟨cl2, _, _, u4_z, u7⟩, ⟨cl1, _, _, r4, r7⟩, cl_z, g2, g4⟩
theorem p_wd (hs : ∀ w_z ∈ nwN, w_z.before #[Value.ref b] s = true) (i_z : Nat) (hi_z : i_z < 23) : ∃ a_z, wdS s b i_z = a_z + 1 ∧ hasI s a_z ∧ hasR s a_z ∧ ∃ cl_z : Cell, s.heap[a_z]? = some cl_z ∧ s.vm.findClass (rR 41) = some cl_z.cls := by
  obtain ⟨a_z, cl_z, g1, g2, g3_z, g4⟩ := f_wd hs i_z hi_z
  obtain ⟨w_z, clb, q1_z, -⟩ := f_by hs i_z hi_z
  obtain ⟨a1_z, cf_z, kf, fi, fd_z, cl1, r1_z, r2, r3, r4, r5_z, r6, r7⟩ := t_fld q1_z
  rw [g1] at r1_z
  cases r1_z
  obtain ⟨a2, cf2, kf2, fi2, fd2, cl2, u1_z, u2_z, u3, u4_z, u5, u6, u7⟩ := t_fld (f_wdc hs i_z hi_z)
  rw [g1] at u1_z
  cases u1_z
  exact ⟨a_z, wd_of g1, ⟨cl2, _, _, u4_z, u7⟩, ⟨cl1, _, _, r4, r7⟩, cl_z, g2, g4⟩
theorem p_by (hs : ∀ w ∈ nwN, w.before #[Value.ref b] s = true) (i_z : Nat) (hi_z : i_z < 23) : ∃ a_z, byS s b i_z = a_z + 1 ∧ allI s a_z ∧ ∃ cl_z : Cell, s.heap[a_z]? = some cl_z ∧ s.isArrayOf cl_z .byte := by
  obtain ⟨a_z, cl_z, g1, g2, g3_z, g4, g5_z, g6⟩ := f_by hs i_z hi_z
  refine ⟨a_z, by_of g1, ⟨cl_z, g2, fun k_z v_z hv => ?_⟩, cl_z, g2, g3_z⟩
  have hk := (Array.getElem?_eq_some_iff.mp hv).1
  rw [g6 k_z (by omega)] at hv
  cases hv
  exact ⟨_, rfl⟩
theorem no_ib {a_z : Nat} {cl_z cl' : Cell} (h1 : s.heap[a_z]? = some cl_z) (h2 : s.isArrayOf cl_z .int) (h3 : s.heap[a_z]? = some cl') (h4 : s.isArrayOf cl' .byte) : False := by
  rw [h1] at h3
  cases h3
  obtain ⟨-, k_z, q1_z, c_z, q2_z⟩ := h2
  obtain ⟨-, k', r1_z, c', r2⟩ := h4
  rw [q1_z] at r1_z
  cases r1_z
  rw [q2_z] at r2
  cases r2
theorem no_cls {a_z : Nat} {cl_z cl' : Cell} {x_z y_z : String} (h1 : s.heap[a_z]? = some cl_z) (h2 : s.vm.findClass x_z = some cl_z.cls) (h3 : s.heap[a_z]? = some cl') (h4 : s.vm.findClass y_z = some cl'.cls) : x_z = y_z := by
  rw [h1] at h3
  cases h3
  obtain ⟨k_z, q1_z, q2_z⟩ := Vm.findClass_spec h2
  obtain ⟨k', r1_z, r2⟩ := Vm.findClass_spec h4
  rw [q1_z] at r1_z
  cases r1_z
  rw [← q2_z, r2]
theorem any_t {r_z : Nat} (gg : Nat → Nat) (i_z : Nat) (hi_z : i_z < 23) (h_z : r_z = gg i_z) : (List.range 23).any (fun q_z => r_z == gg q_z) = true := List.any_eq_true.mpr ⟨i_z, List.mem_range.mpr hi_z, by rw [h_z]; exact beq_self_eq_true _⟩
theorem any_o {r_z : Nat} (gg : Nat → Nat) (h_z : (List.range 23).any (fun q_z => r_z == gg q_z) = true) : ∃ i_z, i_z < 23 ∧ r_z = gg i_z := by
  obtain ⟨i_z, h1, h2⟩ := List.any_eq_true.mp h_z
  exact ⟨i_z, List.mem_range.mp h1, eq_of_beq h2⟩
theorem kd_b : kdS s b (b + 1) = 104 := by
  unfold kdS
  rw [if_neg (by omega), if_pos rfl]
theorem kd_ops (hX : va_X b L xs s s.heap) (hs : ∀ w ∈ nwN, w.before #[Value.ref b] s = true) : kdS s b (svS s b 0) = 250 := by
  obtain ⟨a_z, h1, h2, h3⟩ := p_ops hs
  have n1_z : ¬ svS s b 0 = b + 1 := fun q_z => by
    have e_z : a_z = b := by omega
    rw [e_z] at h3
    exact no_ir (p_b hX) h3
  unfold kdS
  rw [if_neg (by omega), if_neg n1_z, if_pos rfl]
theorem kd_sw (hX : va_X b L xs s s.heap) (hs : ∀ w ∈ nwN, w.before #[Value.ref b] s = true) : kdS s b (svS s b 1) = 104 := by
  obtain ⟨a_z, h1, h2, h3⟩ := p_ops hs
  obtain ⟨a', g1, g2⟩ := p_sw hs
  have n1_z : ¬ svS s b 1 = svS s b 0 := fun q_z => by
    have e_z : a_z = a' := by omega
    rw [e_z] at h3
    exact no_ir g2 h3
  unfold kdS
  rw [if_neg (by omega)]
  split
  · rfl
  · first | rw [if_pos rfl] | rw [if_neg n1_z, if_pos rfl]
theorem kd_op (hX : va_X b L xs s s.heap) (hs : ∀ w ∈ nwN, w.before #[Value.ref b] s = true) (i_z : Nat) (hi_z : i_z < 23) : kdS s b (svS s b (3 + i_z)) = 41 := by
  obtain ⟨a0_z, h1, h2, h3⟩ := p_ops hs
  obtain ⟨a1_z, g1, g2⟩ := p_sw hs
  obtain ⟨a_z, q1_z, q2_z, q3_z, -⟩ := p_op hs i_z hi_z
  have n1_z : ¬ svS s b (3 + i_z) = b + 1 := fun q_z => by
    have e_z : a_z = b := by omega
    rw [e_z] at q3_z
    exact no_ir (p_b hX) q3_z
  have n2_z : ¬ svS s b (3 + i_z) = svS s b 0 := fun q_z => by
    have e_z : a_z = a0_z := by omega
    rw [e_z] at q2_z
    exact no_ri h2 q2_z
  have n3_z : ¬ svS s b (3 + i_z) = svS s b 1 := fun q_z => by
    have e_z : a_z = a1_z := by omega
    rw [e_z] at q3_z
    exact no_ir g2 q3_z
  unfold kdS
  rw [if_neg (by omega), if_neg n1_z, if_neg n2_z, if_neg n3_z, if_pos (any_t (fun q_z => svS s b (3 + q_z)) i_z hi_z rfl)]
theorem kd_wd (hX : va_X b L xs s s.heap) (hs : ∀ w ∈ nwN, w.before #[Value.ref b] s = true) (i_z : Nat) (hi_z : i_z < 23) : kdS s b (wdS s b i_z) = 42 := by
  obtain ⟨a0_z, h1, h2, h3⟩ := p_ops hs
  obtain ⟨a1_z, g1, g2⟩ := p_sw hs
  obtain ⟨a_z, q1_z, q2_z, q3_z, cl_z, q4_z, q5_z⟩ := p_wd hs i_z hi_z
  have n1_z : ¬ wdS s b i_z = b + 1 := fun q_z => by
    have e_z : a_z = b := by omega
    rw [e_z] at q3_z
    exact no_ir (p_b hX) q3_z
  have n2_z : ¬ wdS s b i_z = svS s b 0 := fun q_z => by
    have e_z : a_z = a0_z := by omega
    rw [e_z] at q2_z
    exact no_ri h2 q2_z
  have n3_z : ¬ wdS s b i_z = svS s b 1 := fun q_z => by
    have e_z : a_z = a1_z := by omega
    rw [e_z] at q3_z
    exact no_ir g2 q3_z
  have n4_z : ¬ (List.range 23).any (fun q_z => wdS s b i_z == svS s b (3 + q_z)) = true := fun q_z => by
    obtain ⟨k_z, hk, he⟩ := any_o (fun q_z => svS s b (3 + q_z)) q_z
    obtain ⟨a2, r1_z, r2, r3, cl2, r4, r5_z⟩ := p_op hs k_z hk
    have he : wdS s b i_z = svS s b (3 + k_z) := he
    have e_z : a2 = a_z := by omega
    rw [e_z] at r4
    exact absurd (no_cls q4_z q5_z r4 r5_z) (by decide)
  unfold kdS
  rw [if_neg (by omega), if_neg n1_z, if_neg n2_z, if_neg n3_z, if_neg n4_z, if_pos (any_t (fun q_z => wdS s b q_z) i_z hi_z rfl)]
theorem kd_by (hX : va_X b L xs s s.heap) (hs : ∀ w ∈ nwN, w.before #[Value.ref b] s = true) (i_z : Nat) (hi_z : i_z < 23) : kdS s b (byS s b i_z) = 105 := by
  obtain ⟨a0_z, h1, h2, h3⟩ := p_ops hs
  obtain ⟨a1_z, cl1, g1, g2, g3_z, -⟩ := f_sw hs
  have g0 := sv_of g1
  obtain ⟨a_z, q1_z, q2_z, cl_z, q4_z, q5_z⟩ := p_by hs i_z hi_z
  have n1_z : ¬ byS s b i_z = b + 1 := fun q_z => by
    have e_z : a_z = b := by omega
    obtain ⟨clx, x1_z, x2_z, -⟩ := hX
    rw [e_z] at q4_z
    exact no_ib x1_z x2_z q4_z q5_z
  have n2_z : ¬ byS s b i_z = svS s b 0 := fun q_z => by
    have e_z : a_z = a0_z := by omega
    rw [e_z] at q2_z
    exact no_ir q2_z h3
  have n3_z : ¬ byS s b i_z = svS s b 1 := fun q_z => by
    have e_z : a_z = a1_z := by omega
    rw [e_z] at q4_z
    exact no_ib g2 g3_z q4_z q5_z
  have n4_z : ¬ (List.range 23).any (fun q_z => byS s b i_z == svS s b (3 + q_z)) = true := fun q_z => by
    obtain ⟨k_z, hk, he⟩ := any_o (fun q_z => svS s b (3 + q_z)) q_z
    obtain ⟨a2, r1_z, r2, r3, -⟩ := p_op hs k_z hk
    have he : byS s b i_z = svS s b (3 + k_z) := he
    have e_z : a2 = a_z := by omega
    rw [e_z] at r3
    exact no_ir q2_z r3
  have n5_z : ¬ (List.range 23).any (fun q_z => byS s b i_z == wdS s b q_z) = true := fun q_z => by
    obtain ⟨k_z, hk, he⟩ := any_o (fun q_z => wdS s b q_z) q_z
    obtain ⟨a2, r1_z, r2, r3, -⟩ := p_wd hs k_z hk
    have he : byS s b i_z = wdS s b k_z := he
    have e_z : a2 = a_z := by omega
    rw [e_z] at r3
    exact no_ir q2_z r3
  unfold kdS
  rw [if_neg (by omega), if_neg n1_z, if_neg n2_z, if_neg n3_z, if_neg n4_z, if_neg n5_z, if_pos (any_t (fun q_z => byS s b q_z) i_z hi_z rfl)]
end CS
