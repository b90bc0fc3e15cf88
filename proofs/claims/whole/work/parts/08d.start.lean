/-! THE START, part 8: the start's heap is the start's memory. Own work. -/
section DS
variable {s : State} {b L : Nat} {xs : Nat → Int32}
theorem rd_o {a_z ci k_z : Nat} (hk : kdS s b (a_z + 1) = ci + 1) (hci : ci = 40 ∨ ci = 41) {cf_z : ClassId} {kf : Class} {fi : Nat} {fd_z : Field} {cl_z : Cell} {v_z : Value} (h1 : s.fieldFound? (rT ci k_z).1 (rT ci k_z).2.1 (rT ci k_z).2.2 = some (cf_z, kf, fi, fd_z)) (h2 : s.heap[a_z]? = some cl_z) (h3 : cl_z.slots[fd_z.slot]? = some v_z) : rdS s (kdS s b (a_z + 1)) (a_z + 1) k_z = some v_z := by
  rw [hk]
  unfold rdS
  rw [if_pos (by omega)]
  simp only [Nat.add_sub_cancel, h1, h2, Option.bind_some, h3]
theorem rd_a {a_z k_z : Nat} (hk : kdS s b (a_z + 1) ≠ 41 ∧ kdS s b (a_z + 1) ≠ 42) {cl_z : Cell} {v_z : Value} (h2 : s.heap[a_z]? = some cl_z) (h3 : cl_z.slots[k_z]? = some v_z) : rdS s (kdS s b (a_z + 1)) (a_z + 1) k_z = some v_z := by
  unfold rdS
  rw [if_neg (fun q_z => q_z.elim hk.1 hk.2)]
  simp only [Nat.add_sub_cancel, h2, Option.bind_some, h3]
theorem m_int {a_z k_z : Nat} {z_z : Int32} (h_z : rdS s (kdS s b (a_z + 1)) (a_z + 1) k_z = some (.int z_z)) : gI (memS s b) (a_z + 1) (k_z : Int) = z_z.toInt := by
  show vInt (rdS s (kdS s b (a_z + 1)) (a_z + 1) k_z) = z_z.toInt
  rw [h_z]
  rfl
theorem m_ref {a_z k_z w_z : Nat} (h_z : rdS s (kdS s b (a_z + 1)) (a_z + 1) k_z = some (.ref w_z)) : gR (memS s b) (a_z + 1) (k_z : Int) = w_z + 1 := by
  show encV (rdS s (kdS s b (a_z + 1)) (a_z + 1) k_z) = w_z + 1
  rw [h_z]
  rfl
theorem m_len {a_z : Nat} {cl_z : Cell} (h_z : s.heap[a_z]? = some cl_z) : gN (memS s b) (a_z + 1) = (cl_z.slots.size : Int) := by
  show ((((s.heap[a_z + 1 - 1]?).map (fun cl_z => cl_z.slots.size)).getD 0 : Nat) : Int) = _
  rw [Nat.add_sub_cancel, h_z]
  rfl
theorem ra_i {a_z n_z : Nat} {cl_z : Cell} {ty_z : FieldType} (hk : kdS s b (a_z + 1) ≠ 41 ∧ kdS s b (a_z + 1) ≠ 42) (h1 : s.heap[a_z]? = some cl_z) (h2 : s.isArrayOf cl_z ty_z) (h3 : cl_z.vm ≠ .unknown) (h4 : cl_z.slots.size = n_z) (hn : n_z ≤ 1000000) (h5 : allI s a_z) : roArr s (memS s b) s.heap a_z ty_z (vfI (memS s b) (a_z + 1)) := by
  refine ⟨n_z, cl_z, by rw [m_len h1, h4], hn, h1, h2, h3, h4, fun j_z hj => ?_⟩
  obtain ⟨cl', q1_z, q2_z⟩ := h5
  rw [h1] at q1_z
  cases q1_z
  have hv : cl_z.slots[j_z]? = some cl_z.slots[j_z] := Array.getElem?_eq_getElem (by omega)
  obtain ⟨z_z, hz⟩ := q2_z j_z _ hv
  rw [hz] at hv
  rw [hv]
  show some (Value.int z_z) = some (Value.int (Int32.ofInt (gI (memS s b) (a_z + 1) (j_z : Int))))
  rw [m_int (rd_a hk h1 hv), i_of]
theorem ra_r {a_z n_z : Nat} {cl_z : Cell} {ty_z : FieldType} (hk : kdS s b (a_z + 1) ≠ 41 ∧ kdS s b (a_z + 1) ≠ 42) (h1 : s.heap[a_z]? = some cl_z) (h2 : s.isArrayOf cl_z ty_z) (h3 : cl_z.vm ≠ .unknown) (h4 : cl_z.slots.size = n_z) (hn : n_z ≤ 1000000) (h5 : allR s a_z) : roArr s (memS s b) s.heap a_z ty_z (vfR (memS s b) (a_z + 1)) := by
  refine ⟨n_z, cl_z, by rw [m_len h1, h4], hn, h1, h2, h3, h4, fun j_z hj => ?_⟩
  obtain ⟨cl', q1_z, q2_z⟩ := h5
  rw [h1] at q1_z
  cases q1_z
  have hv : cl_z.slots[j_z]? = some cl_z.slots[j_z] := Array.getElem?_eq_getElem (by omega)
  obtain ⟨z_z, hz⟩ := q2_z j_z _ hv
  rw [hz] at hv
  rw [hv]
  show some (Value.ref z_z) = some (cv (a_r (gR (memS s b) (a_z + 1) (j_z : Int))))
  rw [m_ref (rd_a hk h1 hv)]
  rfl
theorem ro_int {a_z ci k_z : Nat} {z_z : Int32} (ht : rtag ci k_z = 0 ∨ rtag ci k_z = 3) (h_z : rdS s (kdS s b (a_z + 1)) (a_z + 1) k_z = some (.int z_z)) : cv (fld (rtag ci k_z) (memS s b) (a_z + 1) (k_z : Int)) = .int z_z := by
  have hf : fld (rtag ci k_z) (memS s b) (a_z + 1) (k_z : Int) = a_i (gI (memS s b) (a_z + 1) (k_z : Int)) := by rcases ht with q_z | q_z <;> rw [q_z] <;> rfl
  rw [hf, m_int h_z]
  show Value.int (Int32.ofInt z_z.toInt) = _
  rw [i_of]
theorem ro_ref {a_z ci k_z w_z : Nat} (ht : rtag ci k_z = 2) (h_z : rdS s (kdS s b (a_z + 1)) (a_z + 1) k_z = some (.ref w_z)) : cv (fld (rtag ci k_z) (memS s b) (a_z + 1) (k_z : Int)) = .ref w_z := by
  have hf : fld (rtag ci k_z) (memS s b) (a_z + 1) (k_z : Int) = a_r (gR (memS s b) (a_z + 1) (k_z : Int)) := by rw [ht]; rfl
  rw [hf, m_ref h_z]
  rfl
theorem ro_40 (hX : va_X b L xs s s.heap) (hs : ∀ w_z ∈ nwN, w_z.before #[Value.ref b] s = true) (i_z : Nat) (hi_z : i_z < 23) {a_z : Nat} (e_z : svS s b (3 + i_z) = a_z + 1) : roObj 40 s (memS s b) s.heap a_z := by
  obtain ⟨a1_z, cl_z, g1, g2, g3_z, g4⟩ := f_op hs i_z hi_z
  have e1_z := sv_of g1
  have e2_z : a1_z = a_z := by omega
  subst e2_z
  have hk : kdS s b (a1_z + 1) = 40 + 1 := by rw [← e_z]; exact kd_op hX hs i_z hi_z
  have ht : ∀ k_z ∈ [0, 2, 3, 4, 5], rtag 40 k_z = 0 ∨ rtag 40 k_z = 3 := by decide
  obtain ⟨w_z, o1, o2⟩ := f_opw hs i_z hi_z
  obtain ⟨a2, cf_z, kf, fi, fd_z, cl2, u1_z, u2_z, u3, u4_z, u5, u6, u7⟩ := t_fld o1
  rw [g1] at u1_z
  cases u1_z
  rw [g2] at u4_z
  cases u4_z
  refine ⟨cl_z, g2, u5, g3_z, g4, fun k_z hk6 => ?_⟩
  by_cases h1 : k_z = 1
  · subst h1
    exact ⟨cf_z, kf, fi, fd_z, u2_z, u3, by rw [u7]; exact congrArg some (ro_ref (by decide) (rd_o hk (Or.inl rfl) u2_z g2 u7)).symm⟩
  · have hk7 : k_z < 6 := hk6
    have hm_z : k_z ∈ [0, 2, 3, 4, 5] := by
      rcases (show k_z = 0 ∨ k_z = 2 ∨ k_z = 3 ∨ k_z = 4 ∨ k_z = 5 by omega) with q_z | q_z | q_z | q_z | q_z <;> rw [q_z] <;> decide
    obtain ⟨a3, cf', kf', fi', fd', cl3, t1_z, t2_z, t3_z, t4_z, t5_z, t6, t7⟩ := t_fld (f_opn hs i_z hi_z k_z hm_z)
    rw [g1] at t1_z
    cases t1_z
    rw [g2] at t4_z
    cases t4_z
    exact ⟨cf', kf', fi', fd', t2_z, t3_z, by rw [t7]; exact congrArg some (ro_int (ht k_z hm_z) (rd_o hk (Or.inl rfl) t2_z g2 t7)).symm⟩
theorem ro_41 (hX : va_X b L xs s s.heap) (hs : ∀ w_z ∈ nwN, w_z.before #[Value.ref b] s = true) (i_z : Nat) (hi_z : i_z < 23) {a_z : Nat} (e_z : wdS s b i_z = a_z + 1) : roObj 41 s (memS s b) s.heap a_z := by
  obtain ⟨a1_z, cl_z, g1, g2, g3_z, g4⟩ := f_wd hs i_z hi_z
  have e1_z := wd_of g1
  have e2_z : a1_z = a_z := by omega
  subst e2_z
  have hk : kdS s b (a1_z + 1) = 41 + 1 := by rw [← e_z]; exact kd_wd hX hs i_z hi_z
  obtain ⟨w_z, clb, o1, -⟩ := f_by hs i_z hi_z
  obtain ⟨a2, cf_z, kf, fi, fd_z, cl2, u1_z, u2_z, u3, u4_z, u5, u6, u7⟩ := t_fld o1
  rw [g1] at u1_z
  cases u1_z
  rw [g2] at u4_z
  cases u4_z
  refine ⟨cl_z, g2, u5, g3_z, g4, fun k_z hk6 => ?_⟩
  have hk7 : k_z < 2 := hk6
  by_cases h1 : k_z = 0
  · subst h1
    have u8 : s.fieldFound? (rT 41 0).1 (rT 41 0).2.1 (rT 41 0).2.2 = some (cf_z, kf, fi, fd_z) := u2_z
    exact ⟨cf_z, kf, fi, fd_z, u8, u3, by rw [u7]; exact congrArg some (ro_ref (by decide) (rd_o hk (Or.inr rfl) u8 g2 u7)).symm⟩
  · have h2 : k_z = 1 := by omega
    subst h2
    obtain ⟨a3, cf', kf', fi', fd', cl3, t1_z, t2_z, t3_z, t4_z, t5_z, t6, t7⟩ := t_fld (f_wdc hs i_z hi_z)
    rw [g1] at t1_z
    cases t1_z
    rw [g2] at t4_z
    cases t4_z
    exact ⟨cf', kf', fi', fd', t2_z, t3_z, by rw [t7]; exact congrArg some (ro_int (by decide) (rd_o hk (Or.inr rfl) t2_z g2 t7)).symm⟩
theorem vInt_in (o : Option Value) : inI (vInt o) := by
  cases o with
  | none => exact ⟨by decide, by decide⟩
  | some v_z =>
    cases v_z with
    | int z_z => exact i_in z_z
    | _ =>
      show inI 0
      exact ⟨by decide, by decide⟩
theorem start_rel {D_z : va_G} {dA : Nat → ClassId} (hL : L ≤ 3072) (hX : va_X b L xs s s.heap) (hs : ∀ w ∈ nwN, w.before #[Value.ref b] s = true) : RelM (envS s b) D_z dA s (memS s b) s.heap := by
  refine ⟨rfl, ?_, Nat.le_refl _, Nat.le_add_right _ _, Nat.zero_le _, fun r_z k_z => ⟨vInt_in _, ⟨?_, ?_⟩⟩, ?_, fun a_z => ?_⟩
  · have h_z : s.heap.toList.drop s.heap.size = [] := by
      apply List.length_eq_zero_iff.mp
      simp
    show 0 = ((s.heap.toList.drop s.heap.size).map (·.slots.size)).sum
    rw [h_z]
    rfl
  · show (-9223372036854775808 : Int) ≤ 0
    omega
  · show (0 : Int) ≤ 9223372036854775807
    omega
  · show kdS s b 0 = 0
    unfold kdS
    rw [if_pos rfl]
  · unfold cellOk
    have e0_z : gK (memS s b) (a_z + 1) = kdS s b (a_z + 1) := rfl
    rw [e0_z]
    by_cases c1_z : a_z + 1 = b + 1
    · have e1_z : a_z = b := by omega
      subst e1_z
      have hk : kdS s a_z (a_z + 1) = 104 := kd_b
      obtain ⟨cl_z, g1, g2, g3_z, g4, g5_z⟩ := id hX
      exact Or.inr (Or.inr (Or.inr (Or.inr (Or.inr (Or.inr (Or.inl ⟨hk, (Array.getElem?_eq_some_iff.mp g1).1, ra_i (by rw [hk]; decide) g1 g2 g3_z g4 (by omega) (p_b hX)⟩))))))
    by_cases c2_z : a_z + 1 = svS s b 0
    · have hk : kdS s b (a_z + 1) = 250 := by rw [c2_z]; exact kd_ops hX hs
      obtain ⟨a1_z, cl_z, g1, g2, g3_z, g4, g5_z, g6, g7⟩ := f_ops hs
      obtain ⟨a2, q1_z, q2_z, q3_z⟩ := p_ops hs
      have e1_z := sv_of g1
      have e2_z : a1_z = a_z := by omega
      have e3_z : a2 = a_z := by omega
      subst e2_z
      rw [e3_z] at q2_z
      exact Or.inr (Or.inr (Or.inr (Or.inr (Or.inr (Or.inr (Or.inr (Or.inr (Or.inr ⟨hk, (Array.getElem?_eq_some_iff.mp g2).1, ra_r (by rw [hk]; decide) g2 g3_z g4 g5_z (by omega) q2_z⟩))))))))
    by_cases c3_z : a_z + 1 = svS s b 1
    · have hk : kdS s b (a_z + 1) = 104 := by rw [c3_z]; exact kd_sw hX hs
      obtain ⟨a1_z, cl_z, g1, g2, g3_z, g4, g5_z, g6⟩ := f_sw hs
      obtain ⟨a2, q1_z, q2_z⟩ := p_sw hs
      have e1_z := sv_of g1
      have e2_z : a1_z = a_z := by omega
      have e3_z : a2 = a_z := by omega
      subst e2_z
      rw [e3_z] at q2_z
      exact Or.inr (Or.inr (Or.inr (Or.inr (Or.inr (Or.inr (Or.inl ⟨hk, (Array.getElem?_eq_some_iff.mp g2).1, ra_i (by rw [hk]; decide) g2 g3_z g4 g5_z (by omega) q2_z⟩))))))
    by_cases c4_z : (List.range 23).any (fun i_z => a_z + 1 == svS s b (3 + i_z)) = true
    · obtain ⟨i_z, hi_z, he⟩ := any_o (fun i_z => svS s b (3 + i_z)) c4_z
      have he : a_z + 1 = svS s b (3 + i_z) := he
      have hk : kdS s b (a_z + 1) = 41 := by rw [he]; exact kd_op hX hs i_z hi_z
      have hr := ro_40 hX hs i_z hi_z he.symm
      obtain ⟨cl_z, g1, -⟩ := id hr
      exact Or.inr (Or.inr (Or.inl ⟨40, hk, Or.inl rfl, (Array.getElem?_eq_some_iff.mp g1).1, hr⟩))
    by_cases c5_z : (List.range 23).any (fun i_z => a_z + 1 == wdS s b i_z) = true
    · obtain ⟨i_z, hi_z, he⟩ := any_o (fun i_z => wdS s b i_z) c5_z
      have he : a_z + 1 = wdS s b i_z := he
      have hk : kdS s b (a_z + 1) = 42 := by rw [he]; exact kd_wd hX hs i_z hi_z
      have hr := ro_41 hX hs i_z hi_z he.symm
      obtain ⟨cl_z, g1, -⟩ := id hr
      exact Or.inr (Or.inr (Or.inl ⟨41, hk, Or.inr rfl, (Array.getElem?_eq_some_iff.mp g1).1, hr⟩))
    by_cases c6_z : (List.range 23).any (fun i_z => a_z + 1 == byS s b i_z) = true
    · obtain ⟨i_z, hi_z, he⟩ := any_o (fun i_z => byS s b i_z) c6_z
      have he : a_z + 1 = byS s b i_z := he
      have hk : kdS s b (a_z + 1) = 105 := by rw [he]; exact kd_by hX hs i_z hi_z
      obtain ⟨a1_z, cl_z, g1, g2, g3_z, g4, g5_z, g6⟩ := f_by hs i_z hi_z
      obtain ⟨a2, q1_z, q2_z, -⟩ := p_by hs i_z hi_z
      have e1_z := by_of g1
      have e2_z : a1_z = a_z := by omega
      have e3_z : a2 = a_z := by omega
      subst e2_z
      rw [e3_z] at q2_z
      have hlen : ∀ k_z, k_z < 23 → (opB k_z).length < 10 := by decide +kernel
      have hl := hlen i_z hi_z
      exact Or.inr (Or.inr (Or.inr (Or.inr (Or.inr (Or.inr (Or.inr (Or.inl ⟨hk, (Array.getElem?_eq_some_iff.mp g2).1, ra_i (by rw [hk]; decide) g2 g3_z g4 g5_z (by omega) q2_z⟩)))))))
    · refine Or.inl ?_
      unfold kdS
      rw [if_neg (by omega), if_neg c1_z, if_neg c2_z, if_neg c3_z, if_neg c4_z, if_neg c5_z, if_neg c6_z]
end DS
