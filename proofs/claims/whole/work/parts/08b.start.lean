/-! THE START, part 8: what each operator, each word, each row of bytes is. Own work. -/
theorem l_all {n_z : Nat} {f_z : Nat → Bool} (h_z : (List.range n_z).all f_z = true) (i_z : Nat) (hi_z : i_z < n_z) : f_z i_z = true := List.all_eq_true.mp h_z i_z (List.mem_range.mpr hi_z)
section BS
variable {s : State} {b : Nat}
theorem f_op (hs : ∀ w ∈ nwN, w.before #[Value.ref b] s = true) (i_z : Nat) (hi_z : i_z < 23) : ∃ (a_z : Nat) (cl_z : Cell), (tvT (3 + i_z)).eval #[Value.ref b] s none [] s = some (.ref a_z) ∧ s.heap[a_z]? = some cl_z ∧ cl_z.vm.isStatics = false ∧ s.vm.findClass (rR 40) = some cl_z.cls := by
  have h1 := l_all nw_op i_z hi_z
  simp only [Bool.and_eq_true] at h1
  obtain ⟨a_z, c_z, cl_z, k_z, g1, g2, g3_z, g4, g5_z, g6, -⟩ := Cond.exactly_spec (hs _ (pkN_ok h1.1.1.1))
  exact ⟨a_z, cl_z, g1, g3_z, g5_z, by rw [g6]; exact g2⟩
theorem f_opn (hs : ∀ w ∈ nwN, w.before #[Value.ref b] s = true) (i_z : Nat) (hi_z : i_z < 23) (k_z : Nat) (hk : k_z ∈ [0, 2, 3, 4, 5]) : (Term.field (tvT (3 + i_z)) (rT 40 k_z).1 (rT 40 k_z).2.1 (rT 40 k_z).2.2).eval #[Value.ref b] s none [] s = some (.int (Int32.ofNat ((opV i_z).getD (vix k_z) 0))) := by
  have h1 := List.all_eq_true.mp (l_all nw_fd i_z hi_z) k_z hk
  exact Cond.eq_int (hs _ (pkN_ok h1)) rfl
theorem f_wd (hs : ∀ w ∈ nwN, w.before #[Value.ref b] s = true) (i_z : Nat) (hi_z : i_z < 23) : ∃ (a_z : Nat) (cl_z : Cell), (wdT i_z).eval #[Value.ref b] s none [] s = some (.ref a_z) ∧ s.heap[a_z]? = some cl_z ∧ cl_z.vm.isStatics = false ∧ s.vm.findClass (rR 41) = some cl_z.cls := by
  have h1 := l_all nw_wd i_z hi_z
  simp only [Bool.and_eq_true] at h1
  obtain ⟨a_z, c_z, cl_z, k_z, g1, g2, g3_z, g4, g5_z, g6, -⟩ := Cond.exactly_spec (hs _ (pkN_ok h1.1.1.1))
  exact ⟨a_z, cl_z, g1, g3_z, g5_z, by rw [g6]; exact g2⟩
theorem f_opw (hs : ∀ w_z ∈ nwN, w_z.before #[Value.ref b] s = true) (i_z : Nat) (hi_z : i_z < 23) : ∃ w_z : Nat, (Term.field (tvT (3 + i_z)) (rT 40 1).1 (rT 40 1).2.1 (rT 40 1).2.2).eval #[Value.ref b] s none [] s = some (.ref w_z) ∧ (wdT i_z).eval #[Value.ref b] s none [] s = some (.ref w_z) := by
  have h1 := l_all nw_op i_z hi_z
  simp only [Bool.and_eq_true] at h1
  obtain ⟨y_z, g1, g2⟩ := Cond.eq_one (hs _ (pkN_ok h1.2))
  obtain ⟨w_z, cl_z, g3_z, -⟩ := f_wd hs i_z hi_z
  rw [g3_z] at g2
  cases g2
  exact ⟨w_z, g1, g3_z⟩
theorem f_by (hs : ∀ w ∈ nwN, w.before #[Value.ref b] s = true) (i_z : Nat) (hi_z : i_z < 23) : ∃ (a_z : Nat) (cl_z : Cell), (byT i_z).eval #[Value.ref b] s none [] s = some (.ref a_z) ∧ s.heap[a_z]? = some cl_z ∧ s.isArrayOf cl_z .byte ∧ cl_z.vm ≠ .unknown ∧ cl_z.slots.size = (opB i_z).length ∧ ∀ k_z, k_z < (opB i_z).length → cl_z.slots[k_z]? = some (.int (Int32.ofNat ((opB i_z).getD k_z 0))) := by
  have h1 := l_all nw_wd i_z hi_z
  simp only [Bool.and_eq_true] at h1
  have hlen : ∀ k_z, k_z < 23 → (opB k_z).length < 10 := by decide +kernel
  have hL := hlen i_z hi_z
  obtain ⟨a_z, cl_z, g1, g2, g3_z, g4⟩ := t_len (by omega) (Cond.eq_int (hs _ (pkN_ok h1.2)) rfl)
  obtain ⟨g5_z, g6⟩ := Cond.arrayOf_spec (hs _ (pkN_ok h1.1.2)) g1 g2
  refine ⟨a_z, cl_z, g1, g2, g5_z, g6, g4, fun k_z hk => ?_⟩
  have h2 := l_all (l_all nw_by i_z hi_z) k_z hk
  obtain ⟨a', cl', q1_z, q2_z, -, q4_z⟩ := t_elm (by omega) (Cond.eq_int (hs _ (pkN_ok h2)) rfl)
  rw [g1] at q1_z
  cases q1_z
  rw [g2] at q2_z
  cases q2_z
  exact q4_z
theorem f_wdc (hs : ∀ w ∈ nwN, w.before #[Value.ref b] s = true) (i_z : Nat) (hi_z : i_z < 23) : (Term.field (wdT i_z) (rT 41 1).1 (rT 41 1).2.1 (rT 41 1).2.2).eval #[Value.ref b] s none [] s = some (.int (Int32.ofNat 0)) := by
  have h1 := l_all nw_wd i_z hi_z
  simp only [Bool.and_eq_true] at h1
  exact Cond.eq_int (hs _ (pkN_ok h1.1.1.2)) rfl
theorem f_ops (hs : ∀ w_z ∈ nwN, w_z.before #[Value.ref b] s = true) : ∃ (a_z : Nat) (cl_z : Cell), (tvT 0).eval #[Value.ref b] s none [] s = some (.ref a_z) ∧ s.heap[a_z]? = some cl_z ∧ s.isArrayOf cl_z (.object (rR 40)) ∧ cl_z.vm ≠ .unknown ∧ cl_z.slots.size = 23 ∧ s.vm.findClass "[LPageInterpreter$Operator;" = some cl_z.cls ∧ ∀ k_z, k_z < 23 → ∃ w_z : Nat, cl_z.slots[k_z]? = some (.ref w_z) ∧ (tvT (3 + k_z)).eval #[Value.ref b] s none [] s = some (.ref w_z) := by
  have h1 := nw_01
  simp only [Bool.and_eq_true] at h1
  obtain ⟨a_z, cl_z, g1, g2, g3_z, g4⟩ := t_len (by omega) (Cond.eq_int (hs _ (pkN_ok h1.1.1.1.1.1.2)) rfl)
  obtain ⟨g5_z, g6⟩ := Cond.arrayOf_spec (hs _ (pkN_ok h1.1.1.1.1.1.1)) g1 g2
  obtain ⟨a2, c2_z, cl2, k2_z, e1_z, e2_z, e3_z, e4_z, e5_z, e6_z, -⟩ := Cond.exactly_spec (hs _ (pkN_ok h1.1.1.1.1.2))
  rw [g1] at e1_z
  cases e1_z
  rw [g2] at e3_z
  cases e3_z
  refine ⟨a_z, cl_z, g1, g2, g5_z, g6, g4, by rw [e6_z]; exact e2_z, fun k_z hk => ?_⟩
  have h2 := l_all nw_op k_z hk
  simp only [Bool.and_eq_true] at h2
  obtain ⟨y_z, q1_z, q2_z⟩ := Cond.eq_one (hs _ (pkN_ok h2.1.1.2))
  obtain ⟨w_z, cl3, q3_z, -⟩ := f_op hs k_z hk
  rw [q3_z] at q2_z
  cases q2_z
  obtain ⟨a', cl', r1_z, r2, -, r4⟩ := t_elm (by omega) q1_z
  rw [g1] at r1_z
  cases r1_z
  rw [g2] at r2
  cases r2
  exact ⟨w_z, r4, q3_z⟩
theorem f_sw (hs : ∀ w ∈ nwN, w.before #[Value.ref b] s = true) : ∃ (a_z : Nat) (cl_z : Cell), (tvT 1).eval #[Value.ref b] s none [] s = some (.ref a_z) ∧ s.heap[a_z]? = some cl_z ∧ s.isArrayOf cl_z .int ∧ cl_z.vm ≠ .unknown ∧ cl_z.slots.size = 23 ∧ ∀ k_z, k_z < 23 → cl_z.slots[k_z]? = some (.int (Int32.ofNat (smapL.getD k_z 0))) := by
  have h1 := nw_01
  simp only [Bool.and_eq_true] at h1
  obtain ⟨a_z, cl_z, g1, g2, g3_z, g4⟩ := t_len (by omega) (Cond.eq_int (hs _ (pkN_ok h1.1.1.2)) rfl)
  obtain ⟨g5_z, g6⟩ := Cond.arrayOf_spec (hs _ (pkN_ok h1.1.1.1.2)) g1 g2
  refine ⟨a_z, cl_z, g1, g2, g5_z, g6, g4, fun k_z hk => ?_⟩
  have h2 := l_all nw_op k_z hk
  simp only [Bool.and_eq_true] at h2
  obtain ⟨a', cl', r1_z, r2, -, r4⟩ := t_elm (by omega) (Cond.eq_int (hs _ (pkN_ok h2.1.2)) rfl)
  rw [g1] at r1_z
  cases r1_z
  rw [g2] at r2
  cases r2
  exact r4
end BS
