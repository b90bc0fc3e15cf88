/-! THE START, part 8: tables and statics at the start. Own work. -/
section ES
variable {s : State} {b L : Nat} {xs : Nat → Int32}
theorem nw_in : (List.range 11).all (fun c_z => decide (Cond.instantiable (kR c_z) (kN c_z) ∈ gtbl)) = true := by decide +kernel
theorem k_all (hts : ∀ w_z ∈ lw_tbl, w_z.before #[Value.ref b] s = true) (c_z : Nat) : ∃ p_z : ClassId × (Nat → Nat), c_z < 11 → u_Kn s (kR c_z) (kT c_z) (kN c_z) p_z.1 p_z.2 := by
  by_cases hc_z : c_z < 11
  · have hg : ∀ w_z ∈ gtbl, w_z.before #[Value.ref b] s = true := fun w_z hw => hts w_z (List.mem_filter.mp hw).1
    obtain ⟨cC, iS, h_z⟩ := u_known hg (kin c_z hc_z) (hg _ (of_decide_eq_true (l_all nw_in c_z hc_z)))
    exact ⟨(cC, iS), fun _ => h_z⟩
  · exact ⟨(0, fun _ => 0), fun q_z => absurd q_z hc_z⟩
theorem ty_pr (hts : ∀ w ∈ lw_tbl, w.before #[Value.ref b] s = true) {ty_z : FieldType} (hm_z : Cond.arrayClass ty_z ∈ lw_tbl) : ∃ c_z : ClassId, ArrOfT s c_z ty_z ∧ s.vm.findClass ("[" ++ ty_z.toString) = some c_z := by
  obtain ⟨c_z, k_z, comp, h1, h2, h3⟩ := Cond.arrayClass_spec (hts _ hm_z)
  exact ⟨c_z, fun N_z z_z => ⟨(fun k_z h_z => by cases h_z), k_z, h2, comp, h3⟩, h1⟩
theorem ty_ob (hts : ∀ w ∈ lw_tbl, w.before #[Value.ref b] s = true) {C_z : String} (hm_z : Cond.arrayOver (.object C_z) ∈ lw_tbl) : ∃ c_z : ClassId, ArrOfT s c_z (.object C_z) ∧ va_RA s c_z (.object C_z) := by
  obtain ⟨comp, c_z, k_z, h0, -, h2, h3, h4⟩ := Cond.arrayOver_spec (hts _ hm_z)
  exact ⟨c_z, fun N_z z_z => ⟨(fun k_z h_z => by cases h_z), k_z, h2, comp, h3⟩, k_z, comp, h2, h3, h0, h4⟩
theorem ty_all (hts : ∀ w ∈ lw_tbl, w.before #[Value.ref b] s = true) : ∃ dA : Nat → ClassId, ∀ (k_z : Nat) (q_z : ClassId × FieldType), (tysOf dA)[k_z]? = some q_z → ArrOfT s q_z.1 q_z.2 ∧ va_RA s q_z.1 q_z.2 := by
  have h1 := nw_ty
  simp only [Bool.and_eq_true, decide_eq_true_eq] at h1
  obtain ⟨⟨⟨⟨⟨⟨⟨m0_z, m1_z⟩, m2_z⟩, m3_z⟩, m4_z⟩, m5_z⟩, m6_z⟩, m7_z⟩ := h1
  obtain ⟨d0_z, u0, v0_z⟩ := ty_pr hts m0_z
  obtain ⟨d1_z, u1_z, v1_z⟩ := ty_pr hts m1_z
  obtain ⟨d2_z, u2_z, v2⟩ := ty_pr hts m2_z
  obtain ⟨d3_z, u3, v3⟩ := ty_ob hts m3_z
  obtain ⟨d4_z, u4_z, v4_z⟩ := ty_ob hts m4_z
  obtain ⟨d5_z, u5, v5⟩ := ty_ob hts m5_z
  obtain ⟨d6_z, u6, v6⟩ := ty_ob hts m6_z
  obtain ⟨d7_z, u7, v7⟩ := ty_ob hts m7_z
  refine ⟨fun k_z => if k_z = 100 then d0_z else if k_z = 101 then d1_z else if k_z = 102 then d2_z else if k_z = 113 then d3_z else if k_z = 117 then d4_z else if k_z = 118 then d5_z else if k_z = 119 then d6_z else d7_z, fun k_z q_z hq => ?_⟩
  have hm_z := List.mem_of_getElem? hq
  simp only [tysOf, tyA, List.map_cons, List.map_nil] at hm_z
  simp only [List.mem_cons, List.not_mem_nil, or_false] at hm_z
  rcases hm_z with q1_z | q1_z | q1_z | q1_z | q1_z | q1_z | q1_z | q1_z <;> subst q1_z
  · exact ⟨u0, v0_z⟩
  · exact ⟨u1_z, v1_z⟩
  · exact ⟨u2_z, v2⟩
  · exact ⟨u3, v3⟩
  · exact ⟨u4_z, v4_z⟩
  · exact ⟨u5, v5⟩
  · exact ⟨u6, v6⟩
  · exact ⟨u7, v7⟩
theorem st_ev (hs : ∀ w ∈ nwN, w.before #[Value.ref b] s = true) (i_z : Nat) (hi_z : i_z < 26) : (tvT i_z).eval #[Value.ref b] s none [] s = some (cv (a_r (svS s b i_z))) := by
  by_cases c0_z : i_z = 0
  · subst c0_z
    obtain ⟨a_z, cl_z, g1, -⟩ := f_ops hs
    rw [g1, sv_of g1]
    rfl
  by_cases c1_z : i_z = 1
  · subst c1_z
    obtain ⟨a_z, cl_z, g1, -⟩ := f_sw hs
    rw [g1, sv_of g1]
    rfl
  by_cases c2_z : i_z = 2
  · subst c2_z
    have h1 := nw_01
    simp only [Bool.and_eq_true] at h1
    obtain ⟨v_z, g1, g2⟩ := Cond.isRef_spec (hs _ (pkN_ok h1.1.2))
    show _ = some (cv (a_r (encV ((tvT 2).eval #[Value.ref b] s none [] s))))
    rw [g1]
    cases v_z with
    | ref a_z => rfl
    | null => rfl
    | _ => cases g2
  · obtain ⟨a_z, cl_z, g1, -⟩ := f_op hs (i_z - 3) (by omega)
    rw [show 3 + (i_z - 3) = i_z by omega] at g1
    rw [g1, sv_of g1]
    rfl
theorem start_wk (hts : ∀ w_z ∈ lw_tbl, w_z.before #[Value.ref b] s = true) (hs : ∀ w_z ∈ nwN, w_z.before #[Value.ref b] s = true) : ∃ (D_z : va_G) (dA : Nat → ClassId), WK (envS s b) D_z dA s := by
  obtain ⟨dA, hA⟩ := ty_all hts
  have hst := nw_st
  simp only [Bool.and_eq_true, decide_eq_true_eq] at hst
  refine ⟨(fun c_z => (Classical.choose (k_all hts c_z)).1, fun c_z => (Classical.choose (k_all hts c_z)).2), dA, ⟨fun c_z q_z hq => ?_, hA⟩, fun w_z hw => ?_, fun i_z hi_z => ?_, ?_⟩
  · have hc_z : c_z < 11 := (List.getElem?_eq_some_iff.mp hq).1
    rw [kcl_at c_z hc_z] at hq
    cases hq
    exact Classical.choose_spec (k_all hts c_z) hc_z
  · have h5 := hts w_z (List.mem_filter.mp hw).1
    have h6 := (List.mem_filter.mp hw).2
    cases w_z <;> simp [isNest] at h6
    case methodLinkNest => exact va_Nw.of rfl h5
    case fieldLinkNest => exact va_Nw.of rfl h5
    case declares => exact va_Nw.of rfl h5
    case arrayOver t =>
      cases t <;> simp at h6
      exact va_AO.of h5
  · have h7 := l_all hst.1.1 i_z hi_z
    simp only [Bool.and_eq_true, decide_eq_true_eq] at h7
    exact va_Zof (hts _ h7.1) (hts _ h7.2) (st_ev hs i_z hi_z) (fun a_z h_z q_z => absurd q_z (Nat.not_le.mpr h_z))
  · have h1 := nw_01
    simp only [Bool.and_eq_true] at h1
    exact va_Zof (hts _ hst.1.2) (hts _ hst.2) (va_eqi (hs _ (pkN_ok h1.2))) (fun a_z h_z q_z => absurd q_z (Nat.not_le.mpr h_z))
end ES
