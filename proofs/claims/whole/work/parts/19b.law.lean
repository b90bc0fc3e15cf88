/-! THE PURE PART, part 19: the law. Own work (written by a program of its own). -/
section LW
variable {G : Env0} {Q : Option AV → Mem → Prop} {M : Mem} {b B jx jm : Nat} {as : List AV} {n : Int} {f : Int → Int}
theorem law_call (h_z : Same G b jx jm as M) (ro : RoI B (b + 193) n f M) : Call G jx (a_r (b + 1) :: as) M (fun r_z M1_z => ∃ v_z : Int, r_z = some (a_i v_z) ∧ RoI B (b + 193) n f M1_z ∧ Call G jm (a_r (b + 193) :: as) M1_z (fun r2 M2_z => r2 = some (a_i v_z) ∧ RoI B (b + 193) n f M2_z ∧ Inv G M2_z b ∧ gz M2_z ≤ gz M + 10 ∧ gs M2_z ≤ gs M + 1000)) := by
  refine At.weak (fun r_z M1_z q_z => ?_) (At.all stab_ro ro h_z)
  obtain ⟨⟨v_z, e_z, h2⟩, ro1⟩ := q_z
  refine ⟨v_z, e_z, ro1, At.weak (fun r2 M2_z q2_z => ?_) (At.all stab_ro ro1 h2)⟩
  obtain ⟨⟨e2_z, iv_z, z1, z2, z3⟩, ro2⟩ := q2_z
  exact ⟨e2_z, ro2, iv_z, z2, z3⟩
theorem law_callL (h_z : SameL G b jx jm as M) (ro : RoI B (b + 193) n f M) : Call G jx (a_r (b + 1) :: as) M (fun r_z M1_z => ∃ v_z : Int, r_z = some (a_l v_z) ∧ RoI B (b + 193) n f M1_z ∧ Call G jm (a_r (b + 193) :: as) M1_z (fun r2 M2_z => r2 = some (a_l v_z) ∧ RoI B (b + 193) n f M2_z ∧ Inv G M2_z b ∧ gz M2_z ≤ gz M + 10 ∧ gs M2_z ≤ gs M + 1000)) := by
  refine At.weak (fun r_z M1_z q_z => ?_) (At.all stab_ro ro h_z)
  obtain ⟨⟨v_z, e_z, h2⟩, ro1⟩ := q_z
  refine ⟨v_z, e_z, ro1, At.weak (fun r2 M2_z q2_z => ?_) (At.all stab_ro ro1 h2)⟩
  obtain ⟨⟨e2_z, iv_z, z1, z2, z3⟩, ro2⟩ := q2_z
  exact ⟨e2_z, ro2, iv_z, z2, z3⟩
theorem ki_ro (ro : RoI B (b + 193) n f M) : kInt (gK M B) := by
  rw [ro.1]
  exact Or.inr rfl
theorem law_0 {i_z : Int} (h_z : Inv G M b) (ro : RoI B (b + 193) n f M) (i0_z : 0 ≤ i_z) (i1_z : i_z + 6 ≤ n) (n1_z : n ≤ 3072) (rm1 : gz M + 10 ≤ G.1 + 600000) (rm2 : gs M + 1000 ≤ 7302249) (kont : ∀ M2_z, Inv G M2_z b → RoI B (b + 193) n f M2_z → gz M2_z ≤ gz M + 10 → gs M2_z ≤ gs M + 1000 → At G 0 857 [a_r B, a_r (b + 1), a_r (b + 193), a_i i_z] [] M2_z Q) : At G 0 144 [a_r B, a_r (b + 1), a_r (b + 193), a_i i_z] [] M Q := by
  rw [B_0_144]
  refine ⟨⟨by omega, by omega⟩, ki_ro ro, by omega, by rw [(ro).2.1]; omega, h_z.1.1.1, ?_⟩
  rw [ro.2.2.1]
  refine Call.weak (law_call (s_append h_z) ro) (fun r_z M1_z q_z => ?_)
  obtain ⟨v_z, e_z, ro1, h2⟩ := q_z
  subst e_z
  simp only [Option.toList_some, Option.toList_none, List.cons_append, List.nil_append, List.append_nil]
  rw [B_0_153]
  refine ⟨⟨by omega, by omega⟩, ki_ro ro1, by omega, by rw [(ro1).2.1]; omega, ro1.2.2.2.2.1, ?_⟩
  rw [ro1.2.2.1]
  refine Call.weak h2 (fun r2 M2_z q_z => ?_)
  obtain ⟨e_z, ro2, iv_z, z2, z3⟩ := q_z
  subst e_z
  simp only [Option.toList_some, Option.toList_none, List.cons_append, List.nil_append, List.append_nil]
  rw [B_0_162]
  exact ⟨fun _ => kont M2_z iv_z ro2 z2 z3, fun w_z => absurd rfl w_z⟩
theorem law_1 {i_z : Int} (h_z : Inv G M b) (ro : RoI B (b + 193) n f M) (i0_z : 0 ≤ i_z) (i1_z : i_z + 6 ≤ n) (n1_z : n ≤ 3072) (rm1 : gz M + 10 ≤ G.1 + 600000) (rm2 : gs M + 1000 ≤ 7302249) (kont : ∀ M2_z, Inv G M2_z b → RoI B (b + 193) n f M2_z → gz M2_z ≤ gz M + 10 → gs M2_z ≤ gs M + 1000 → At G 0 857 [a_r B, a_r (b + 1), a_r (b + 193), a_i i_z] [] M2_z Q) : At G 0 167 [a_r B, a_r (b + 1), a_r (b + 193), a_i i_z] [] M Q := by
  rw [B_0_167]
  refine ⟨h_z.1.1.1, ?_⟩
  refine Call.weak (law_call (s_clearBuffer h_z) ro) (fun r_z M1_z q_z => ?_)
  obtain ⟨v_z, e_z, ro1, h2⟩ := q_z
  subst e_z
  simp only [Option.toList_some, Option.toList_none, List.cons_append, List.nil_append, List.append_nil]
  rw [B_0_171]
  refine ⟨ro1.2.2.2.2.1, ?_⟩
  refine Call.weak h2 (fun r2 M2_z q_z => ?_)
  obtain ⟨e_z, ro2, iv_z, z2, z3⟩ := q_z
  subst e_z
  simp only [Option.toList_some, Option.toList_none, List.cons_append, List.nil_append, List.append_nil]
  rw [B_0_175]
  exact ⟨fun _ => kont M2_z iv_z ro2 z2 z3, fun w_z => absurd rfl w_z⟩
theorem law_2 {i_z : Int} (h_z : Inv G M b) (ro : RoI B (b + 193) n f M) (i0_z : 0 ≤ i_z) (i1_z : i_z + 6 ≤ n) (n1_z : n ≤ 3072) (rm1 : gz M + 10 ≤ G.1 + 600000) (rm2 : gs M + 1000 ≤ 7302249) (kont : ∀ M2_z, Inv G M2_z b → RoI B (b + 193) n f M2_z → gz M2_z ≤ gz M + 10 → gs M2_z ≤ gs M + 1000 → At G 0 857 [a_r B, a_r (b + 1), a_r (b + 193), a_i i_z] [] M2_z Q) : At G 0 180 [a_r B, a_r (b + 1), a_r (b + 193), a_i i_z] [] M Q := by
  rw [B_0_180]
  refine ⟨⟨by omega, by omega⟩, ki_ro ro, by omega, by rw [(ro).2.1]; omega, h_z.1.1.1, ?_⟩
  rw [ro.2.2.1]
  refine Call.weak (law_call (s_setStream h_z rm1 rm2) ro) (fun r_z M1_z q_z => ?_)
  obtain ⟨v_z, e_z, ro1, h2⟩ := q_z
  subst e_z
  simp only [Option.toList_some, Option.toList_none, List.cons_append, List.nil_append, List.append_nil]
  rw [B_0_189]
  refine ⟨⟨by omega, by omega⟩, ki_ro ro1, by omega, by rw [(ro1).2.1]; omega, ro1.2.2.2.2.1, ?_⟩
  rw [ro1.2.2.1]
  refine Call.weak h2 (fun r2 M2_z q_z => ?_)
  obtain ⟨e_z, ro2, iv_z, z2, z3⟩ := q_z
  subst e_z
  simp only [Option.toList_some, Option.toList_none, List.cons_append, List.nil_append, List.append_nil]
  rw [B_0_198]
  exact ⟨fun _ => kont M2_z iv_z ro2 z2 z3, fun w_z => absurd rfl w_z⟩
theorem law_3 {i_z : Int} (h_z : Inv G M b) (ro : RoI B (b + 193) n f M) (i0_z : 0 ≤ i_z) (i1_z : i_z + 6 ≤ n) (n1_z : n ≤ 3072) (rm1 : gz M + 10 ≤ G.1 + 600000) (rm2 : gs M + 1000 ≤ 7302249) (kont : ∀ M2_z, Inv G M2_z b → RoI B (b + 193) n f M2_z → gz M2_z ≤ gz M + 10 → gs M2_z ≤ gs M + 1000 → At G 0 857 [a_r B, a_r (b + 1), a_r (b + 193), a_i i_z] [] M2_z Q) : At G 0 203 [a_r B, a_r (b + 1), a_r (b + 193), a_i i_z] [] M Q := by
  rw [B_0_203]
  refine ⟨⟨by omega, by omega⟩, ki_ro ro, by omega, by rw [(ro).2.1]; omega, h_z.1.1.1, ?_⟩
  rw [ro.2.2.1]
  refine Call.weak (law_call (s_tokenCount h_z) ro) (fun r_z M1_z q_z => ?_)
  obtain ⟨v_z, e_z, ro1, h2⟩ := q_z
  subst e_z
  simp only [Option.toList_some, Option.toList_none, List.cons_append, List.nil_append, List.append_nil]
  rw [B_0_212]
  refine ⟨⟨by omega, by omega⟩, ki_ro ro1, by omega, by rw [(ro1).2.1]; omega, ro1.2.2.2.2.1, ?_⟩
  rw [ro1.2.2.1]
  refine Call.weak h2 (fun r2 M2_z q_z => ?_)
  obtain ⟨e_z, ro2, iv_z, z2, z3⟩ := q_z
  subst e_z
  simp only [Option.toList_some, Option.toList_none, List.cons_append, List.nil_append, List.append_nil]
  rw [B_0_221]
  exact ⟨fun _ => kont M2_z iv_z ro2 z2 z3, fun w_z => absurd rfl w_z⟩
theorem law_4 {i_z : Int} (h_z : Inv G M b) (ro : RoI B (b + 193) n f M) (i0_z : 0 ≤ i_z) (i1_z : i_z + 6 ≤ n) (n1_z : n ≤ 3072) (rm1 : gz M + 10 ≤ G.1 + 600000) (rm2 : gs M + 1000 ≤ 7302249) (kont : ∀ M2_z, Inv G M2_z b → RoI B (b + 193) n f M2_z → gz M2_z ≤ gz M + 10 → gs M2_z ≤ gs M + 1000 → At G 0 857 [a_r B, a_r (b + 1), a_r (b + 193), a_i i_z] [] M2_z Q) : At G 0 226 [a_r B, a_r (b + 1), a_r (b + 193), a_i i_z] [] M Q := by
  rw [B_0_226]
  refine ⟨⟨by omega, by omega⟩, ki_ro ro, by omega, by rw [(ro).2.1]; omega, ⟨by omega, by omega⟩, ki_ro ro, by omega, by rw [(ro).2.1]; omega, ⟨by omega, by omega⟩, ki_ro ro, by omega, by rw [(ro).2.1]; omega, ⟨by omega, by omega⟩, ki_ro ro, by omega, by rw [(ro).2.1]; omega, ⟨by omega, by omega⟩, ki_ro ro, by omega, by rw [(ro).2.1]; omega, h_z.1.1.1, ?_⟩
  rw [ro.2.2.1]
  refine Call.weak (law_call (s_setBox h_z) ro) (fun r_z M1_z q_z => ?_)
  obtain ⟨v_z, e_z, ro1, h2⟩ := q_z
  subst e_z
  simp only [Option.toList_some, Option.toList_none, List.cons_append, List.nil_append, List.append_nil]
  rw [B_0_255]
  refine ⟨⟨by omega, by omega⟩, ki_ro ro1, by omega, by rw [(ro1).2.1]; omega, ⟨by omega, by omega⟩, ki_ro ro1, by omega, by rw [(ro1).2.1]; omega, ⟨by omega, by omega⟩, ki_ro ro1, by omega, by rw [(ro1).2.1]; omega, ⟨by omega, by omega⟩, ki_ro ro1, by omega, by rw [(ro1).2.1]; omega, ⟨by omega, by omega⟩, ki_ro ro1, by omega, by rw [(ro1).2.1]; omega, ro1.2.2.2.2.1, ?_⟩
  rw [ro1.2.2.1]
  refine Call.weak h2 (fun r2 M2_z q_z => ?_)
  obtain ⟨e_z, ro2, iv_z, z2, z3⟩ := q_z
  subst e_z
  simp only [Option.toList_some, Option.toList_none, List.cons_append, List.nil_append, List.append_nil]
  rw [B_0_284]
  exact ⟨fun _ => kont M2_z iv_z ro2 z2 z3, fun w_z => absurd rfl w_z⟩
theorem law_5 {i_z : Int} (h_z : Inv G M b) (ro : RoI B (b + 193) n f M) (i0_z : 0 ≤ i_z) (i1_z : i_z + 6 ≤ n) (n1_z : n ≤ 3072) (rm1 : gz M + 10 ≤ G.1 + 600000) (rm2 : gs M + 1000 ≤ 7302249) (kont : ∀ M2_z, Inv G M2_z b → RoI B (b + 193) n f M2_z → gz M2_z ≤ gz M + 10 → gs M2_z ≤ gs M + 1000 → At G 0 857 [a_r B, a_r (b + 1), a_r (b + 193), a_i i_z] [] M2_z Q) : At G 0 289 [a_r B, a_r (b + 1), a_r (b + 193), a_i i_z] [] M Q := by
  rw [B_0_289]
  refine ⟨⟨by omega, by omega⟩, ki_ro ro, by omega, by rw [(ro).2.1]; omega, h_z.1.1.1, ?_⟩
  rw [ro.2.2.1]
  refine Call.weak (law_call (s_removeBox h_z) ro) (fun r_z M1_z q_z => ?_)
  obtain ⟨v_z, e_z, ro1, h2⟩ := q_z
  subst e_z
  simp only [Option.toList_some, Option.toList_none, List.cons_append, List.nil_append, List.append_nil]
  rw [B_0_298]
  refine ⟨⟨by omega, by omega⟩, ki_ro ro1, by omega, by rw [(ro1).2.1]; omega, ro1.2.2.2.2.1, ?_⟩
  rw [ro1.2.2.1]
  refine Call.weak h2 (fun r2 M2_z q_z => ?_)
  obtain ⟨e_z, ro2, iv_z, z2, z3⟩ := q_z
  subst e_z
  simp only [Option.toList_some, Option.toList_none, List.cons_append, List.nil_append, List.append_nil]
  rw [B_0_307]
  exact ⟨fun _ => kont M2_z iv_z ro2 z2 z3, fun w_z => absurd rfl w_z⟩
theorem law_6 {i_z : Int} (h_z : Inv G M b) (ro : RoI B (b + 193) n f M) (i0_z : 0 ≤ i_z) (i1_z : i_z + 6 ≤ n) (n1_z : n ≤ 3072) (rm1 : gz M + 10 ≤ G.1 + 600000) (rm2 : gs M + 1000 ≤ 7302249) (kont : ∀ M2_z, Inv G M2_z b → RoI B (b + 193) n f M2_z → gz M2_z ≤ gz M + 10 → gs M2_z ≤ gs M + 1000 → At G 0 857 [a_r B, a_r (b + 1), a_r (b + 193), a_i i_z] [] M2_z Q) : At G 0 312 [a_r B, a_r (b + 1), a_r (b + 193), a_i i_z] [] M Q := by
  rw [B_0_312]
  refine ⟨⟨by omega, by omega⟩, ki_ro ro, by omega, by rw [(ro).2.1]; omega, ⟨by omega, by omega⟩, ki_ro ro, by omega, by rw [(ro).2.1]; omega, ⟨by omega, by omega⟩, ki_ro ro, by omega, by rw [(ro).2.1]; omega, ⟨by omega, by omega⟩, ki_ro ro, by omega, by rw [(ro).2.1]; omega, h_z.1.1.1, ?_⟩
  rw [ro.2.2.1]
  refine Call.weak (law_call (s_define h_z) ro) (fun r_z M1_z q_z => ?_)
  obtain ⟨v_z, e_z, ro1, h2⟩ := q_z
  subst e_z
  simp only [Option.toList_some, Option.toList_none, List.cons_append, List.nil_append, List.append_nil]
  rw [B_0_336]
  refine ⟨⟨by omega, by omega⟩, ki_ro ro1, by omega, by rw [(ro1).2.1]; omega, ⟨by omega, by omega⟩, ki_ro ro1, by omega, by rw [(ro1).2.1]; omega, ⟨by omega, by omega⟩, ki_ro ro1, by omega, by rw [(ro1).2.1]; omega, ⟨by omega, by omega⟩, ki_ro ro1, by omega, by rw [(ro1).2.1]; omega, ro1.2.2.2.2.1, ?_⟩
  rw [ro1.2.2.1]
  refine Call.weak h2 (fun r2 M2_z q_z => ?_)
  obtain ⟨e_z, ro2, iv_z, z2, z3⟩ := q_z
  subst e_z
  simp only [Option.toList_some, Option.toList_none, List.cons_append, List.nil_append, List.append_nil]
  rw [B_0_360]
  exact ⟨fun _ => kont M2_z iv_z ro2 z2 z3, fun w_z => absurd rfl w_z⟩
theorem law_7 {i_z : Int} (h_z : Inv G M b) (ro : RoI B (b + 193) n f M) (i0_z : 0 ≤ i_z) (i1_z : i_z + 6 ≤ n) (n1_z : n ≤ 3072) (rm1 : gz M + 10 ≤ G.1 + 600000) (rm2 : gs M + 1000 ≤ 7302249) (kont : ∀ M2_z, Inv G M2_z b → RoI B (b + 193) n f M2_z → gz M2_z ≤ gz M + 10 → gs M2_z ≤ gs M + 1000 → At G 0 857 [a_r B, a_r (b + 1), a_r (b + 193), a_i i_z] [] M2_z Q) : At G 0 365 [a_r B, a_r (b + 1), a_r (b + 193), a_i i_z] [] M Q := by
  rw [B_0_365]
  refine ⟨⟨by omega, by omega⟩, ki_ro ro, by omega, by rw [(ro).2.1]; omega, ⟨by omega, by omega⟩, ki_ro ro, by omega, by rw [(ro).2.1]; omega, h_z.1.1.1, ?_⟩
  rw [ro.2.2.1]
  refine Call.weak (law_call (s_removeResource h_z) ro) (fun r_z M1_z q_z => ?_)
  obtain ⟨v_z, e_z, ro1, h2⟩ := q_z
  subst e_z
  simp only [Option.toList_some, Option.toList_none, List.cons_append, List.nil_append, List.append_nil]
  rw [B_0_379]
  refine ⟨⟨by omega, by omega⟩, ki_ro ro1, by omega, by rw [(ro1).2.1]; omega, ⟨by omega, by omega⟩, ki_ro ro1, by omega, by rw [(ro1).2.1]; omega, ro1.2.2.2.2.1, ?_⟩
  rw [ro1.2.2.1]
  refine Call.weak h2 (fun r2 M2_z q_z => ?_)
  obtain ⟨e_z, ro2, iv_z, z2, z3⟩ := q_z
  subst e_z
  simp only [Option.toList_some, Option.toList_none, List.cons_append, List.nil_append, List.append_nil]
  rw [B_0_393]
  exact ⟨fun _ => kont M2_z iv_z ro2 z2 z3, fun w_z => absurd rfl w_z⟩
theorem law_8 {i_z : Int} (h_z : Inv G M b) (ro : RoI B (b + 193) n f M) (i0_z : 0 ≤ i_z) (i1_z : i_z + 6 ≤ n) (n1_z : n ≤ 3072) (rm1 : gz M + 10 ≤ G.1 + 600000) (rm2 : gs M + 1000 ≤ 7302249) (kont : ∀ M2_z, Inv G M2_z b → RoI B (b + 193) n f M2_z → gz M2_z ≤ gz M + 10 → gs M2_z ≤ gs M + 1000 → At G 0 857 [a_r B, a_r (b + 1), a_r (b + 193), a_i i_z] [] M2_z Q) : At G 0 398 [a_r B, a_r (b + 1), a_r (b + 193), a_i i_z] [] M Q := by
  rw [B_0_398]
  refine ⟨⟨by omega, by omega⟩, ki_ro ro, by omega, by rw [(ro).2.1]; omega, ⟨by omega, by omega⟩, ki_ro ro, by omega, by rw [(ro).2.1]; omega, h_z.1.1.1, ?_⟩
  rw [ro.2.2.1]
  refine Call.weak (law_call (s_resource h_z) ro) (fun r_z M1_z q_z => ?_)
  obtain ⟨v_z, e_z, ro1, h2⟩ := q_z
  subst e_z
  simp only [Option.toList_some, Option.toList_none, List.cons_append, List.nil_append, List.append_nil]
  rw [B_0_412]
  refine ⟨⟨by omega, by omega⟩, ki_ro ro1, by omega, by rw [(ro1).2.1]; omega, ⟨by omega, by omega⟩, ki_ro ro1, by omega, by rw [(ro1).2.1]; omega, ro1.2.2.2.2.1, ?_⟩
  rw [ro1.2.2.1]
  refine Call.weak h2 (fun r2 M2_z q_z => ?_)
  obtain ⟨e_z, ro2, iv_z, z2, z3⟩ := q_z
  subst e_z
  simp only [Option.toList_some, Option.toList_none, List.cons_append, List.nil_append, List.append_nil]
  rw [B_0_426]
  exact ⟨fun _ => kont M2_z iv_z ro2 z2 z3, fun w_z => absurd rfl w_z⟩
theorem law_9 {i_z : Int} (h_z : Inv G M b) (ro : RoI B (b + 193) n f M) (i0_z : 0 ≤ i_z) (i1_z : i_z + 6 ≤ n) (n1_z : n ≤ 3072) (rm1 : gz M + 10 ≤ G.1 + 600000) (rm2 : gs M + 1000 ≤ 7302249) (kont : ∀ M2_z, Inv G M2_z b → RoI B (b + 193) n f M2_z → gz M2_z ≤ gz M + 10 → gs M2_z ≤ gs M + 1000 → At G 0 857 [a_r B, a_r (b + 1), a_r (b + 193), a_i i_z] [] M2_z Q) : At G 0 431 [a_r B, a_r (b + 1), a_r (b + 193), a_i i_z] [] M Q := by
  rw [B_0_431]
  refine ⟨⟨by omega, by omega⟩, ki_ro ro, by omega, by rw [(ro).2.1]; omega, ⟨by omega, by omega⟩, ki_ro ro, by omega, by rw [(ro).2.1]; omega, h_z.1.1.1, ?_⟩
  rw [ro.2.2.1]
  refine Call.weak (law_call (s_setSize h_z) ro) (fun r_z M1_z q_z => ?_)
  obtain ⟨v_z, e_z, ro1, h2⟩ := q_z
  subst e_z
  simp only [Option.toList_some, Option.toList_none, List.cons_append, List.nil_append, List.append_nil]
  rw [B_0_445]
  refine ⟨⟨by omega, by omega⟩, ki_ro ro1, by omega, by rw [(ro1).2.1]; omega, ⟨by omega, by omega⟩, ki_ro ro1, by omega, by rw [(ro1).2.1]; omega, ro1.2.2.2.2.1, ?_⟩
  rw [ro1.2.2.1]
  refine Call.weak h2 (fun r2 M2_z q_z => ?_)
  obtain ⟨e_z, ro2, iv_z, z2, z3⟩ := q_z
  subst e_z
  simp only [Option.toList_some, Option.toList_none, List.cons_append, List.nil_append, List.append_nil]
  rw [B_0_459]
  exact ⟨fun _ => kont M2_z iv_z ro2 z2 z3, fun w_z => absurd rfl w_z⟩
theorem law_10 {i_z : Int} (h_z : Inv G M b) (ro : RoI B (b + 193) n f M) (i0_z : 0 ≤ i_z) (i1_z : i_z + 6 ≤ n) (n1_z : n ≤ 3072) (rm1 : gz M + 10 ≤ G.1 + 600000) (rm2 : gs M + 1000 ≤ 7302249) (kont : ∀ M2_z, Inv G M2_z b → RoI B (b + 193) n f M2_z → gz M2_z ≤ gz M + 10 → gs M2_z ≤ gs M + 1000 → At G 0 857 [a_r B, a_r (b + 1), a_r (b + 193), a_i i_z] [] M2_z Q) : At G 0 464 [a_r B, a_r (b + 1), a_r (b + 193), a_i i_z] [] M Q := by
  rw [B_0_464]
  refine ⟨⟨by omega, by omega⟩, ki_ro ro, by omega, by rw [(ro).2.1]; omega, h_z.1.1.1, ?_⟩
  rw [ro.2.2.1]
  refine Call.weak (law_call (s_setBudget h_z) ro) (fun r_z M1_z q_z => ?_)
  obtain ⟨v_z, e_z, ro1, h2⟩ := q_z
  subst e_z
  simp only [Option.toList_some, Option.toList_none, List.cons_append, List.nil_append, List.append_nil]
  rw [B_0_473]
  refine ⟨⟨by omega, by omega⟩, ki_ro ro1, by omega, by rw [(ro1).2.1]; omega, ro1.2.2.2.2.1, ?_⟩
  rw [ro1.2.2.1]
  refine Call.weak h2 (fun r2 M2_z q_z => ?_)
  obtain ⟨e_z, ro2, iv_z, z2, z3⟩ := q_z
  subst e_z
  simp only [Option.toList_some, Option.toList_none, List.cons_append, List.nil_append, List.append_nil]
  rw [B_0_482]
  exact ⟨fun _ => kont M2_z iv_z ro2 z2 z3, fun w_z => absurd rfl w_z⟩
theorem law_11 {i_z : Int} (h_z : Inv G M b) (ro : RoI B (b + 193) n f M) (i0_z : 0 ≤ i_z) (i1_z : i_z + 6 ≤ n) (n1_z : n ≤ 3072) (rm1 : gz M + 10 ≤ G.1 + 600000) (rm2 : gs M + 1000 ≤ 7302249) (kont : ∀ M2_z, Inv G M2_z b → RoI B (b + 193) n f M2_z → gz M2_z ≤ gz M + 10 → gs M2_z ≤ gs M + 1000 → At G 0 857 [a_r B, a_r (b + 1), a_r (b + 193), a_i i_z] [] M2_z Q) : At G 0 487 [a_r B, a_r (b + 1), a_r (b + 193), a_i i_z] [] M Q := by
  rw [B_0_487]
  refine ⟨h_z.1.1.1, ?_⟩
  refine Call.weak (law_call (s_undo h_z) ro) (fun r_z M1_z q_z => ?_)
  obtain ⟨v_z, e_z, ro1, h2⟩ := q_z
  subst e_z
  simp only [Option.toList_some, Option.toList_none, List.cons_append, List.nil_append, List.append_nil]
  rw [B_0_491]
  refine ⟨ro1.2.2.2.2.1, ?_⟩
  refine Call.weak h2 (fun r2 M2_z q_z => ?_)
  obtain ⟨e_z, ro2, iv_z, z2, z3⟩ := q_z
  subst e_z
  simp only [Option.toList_some, Option.toList_none, List.cons_append, List.nil_append, List.append_nil]
  rw [B_0_495]
  exact ⟨fun _ => kont M2_z iv_z ro2 z2 z3, fun w_z => absurd rfl w_z⟩
theorem law_12 {i_z : Int} (h_z : Inv G M b) (ro : RoI B (b + 193) n f M) (i0_z : 0 ≤ i_z) (i1_z : i_z + 6 ≤ n) (n1_z : n ≤ 3072) (rm1 : gz M + 10 ≤ G.1 + 600000) (rm2 : gs M + 1000 ≤ 7302249) (kont : ∀ M2_z, Inv G M2_z b → RoI B (b + 193) n f M2_z → gz M2_z ≤ gz M + 10 → gs M2_z ≤ gs M + 1000 → At G 0 857 [a_r B, a_r (b + 1), a_r (b + 193), a_i i_z] [] M2_z Q) : At G 0 500 [a_r B, a_r (b + 1), a_r (b + 193), a_i i_z] [] M Q := by
  rw [B_0_500]
  refine ⟨h_z.1.1.1, ?_⟩
  refine Call.weak (law_call (s_run h_z) ro) (fun r_z M1_z q_z => ?_)
  obtain ⟨v_z, e_z, ro1, h2⟩ := q_z
  subst e_z
  simp only [Option.toList_some, Option.toList_none, List.cons_append, List.nil_append, List.append_nil]
  rw [B_0_504]
  refine ⟨ro1.2.2.2.2.1, ?_⟩
  refine Call.weak h2 (fun r2 M2_z q_z => ?_)
  obtain ⟨e_z, ro2, iv_z, z2, z3⟩ := q_z
  subst e_z
  simp only [Option.toList_some, Option.toList_none, List.cons_append, List.nil_append, List.append_nil]
  rw [B_0_508]
  exact ⟨fun _ => kont M2_z iv_z ro2 z2 z3, fun w_z => absurd rfl w_z⟩
theorem law_13 {i_z : Int} (h_z : Inv G M b) (ro : RoI B (b + 193) n f M) (i0_z : 0 ≤ i_z) (i1_z : i_z + 6 ≤ n) (n1_z : n ≤ 3072) (rm1 : gz M + 10 ≤ G.1 + 600000) (rm2 : gs M + 1000 ≤ 7302249) (kont : ∀ M2_z, Inv G M2_z b → RoI B (b + 193) n f M2_z → gz M2_z ≤ gz M + 10 → gs M2_z ≤ gs M + 1000 → At G 0 857 [a_r B, a_r (b + 1), a_r (b + 193), a_i i_z] [] M2_z Q) : At G 0 513 [a_r B, a_r (b + 1), a_r (b + 193), a_i i_z] [] M Q := by
  rw [B_0_513]
  refine ⟨⟨by omega, by omega⟩, ki_ro ro, by omega, by rw [(ro).2.1]; omega, h_z.1.1.1, ?_⟩
  rw [ro.2.2.1]
  refine Call.weak (law_call (s_result h_z) ro) (fun r_z M1_z q_z => ?_)
  obtain ⟨v_z, e_z, ro1, h2⟩ := q_z
  subst e_z
  simp only [Option.toList_some, Option.toList_none, List.cons_append, List.nil_append, List.append_nil]
  rw [B_0_522]
  refine ⟨⟨by omega, by omega⟩, ki_ro ro1, by omega, by rw [(ro1).2.1]; omega, ro1.2.2.2.2.1, ?_⟩
  rw [ro1.2.2.1]
  refine Call.weak h2 (fun r2 M2_z q_z => ?_)
  obtain ⟨e_z, ro2, iv_z, z2, z3⟩ := q_z
  subst e_z
  simp only [Option.toList_some, Option.toList_none, List.cons_append, List.nil_append, List.append_nil]
  rw [B_0_531]
  exact ⟨fun _ => kont M2_z iv_z ro2 z2 z3, fun w_z => absurd rfl w_z⟩
theorem law_14 {i_z : Int} (h_z : Inv G M b) (ro : RoI B (b + 193) n f M) (i0_z : 0 ≤ i_z) (i1_z : i_z + 6 ≤ n) (n1_z : n ≤ 3072) (rm1 : gz M + 10 ≤ G.1 + 600000) (rm2 : gs M + 1000 ≤ 7302249) (kont : ∀ M2_z, Inv G M2_z b → RoI B (b + 193) n f M2_z → gz M2_z ≤ gz M + 10 → gs M2_z ≤ gs M + 1000 → At G 0 857 [a_r B, a_r (b + 1), a_r (b + 193), a_i i_z] [] M2_z Q) : At G 0 536 [a_r B, a_r (b + 1), a_r (b + 193), a_i i_z] [] M Q := by
  rw [B_0_536]
  refine ⟨⟨by omega, by omega⟩, ki_ro ro, by omega, by rw [(ro).2.1]; omega, ⟨by omega, by omega⟩, ki_ro ro, by omega, by rw [(ro).2.1]; omega, h_z.1.1.1, ?_⟩
  rw [ro.2.2.1]
  refine Call.weak (law_call (s_operand h_z) ro) (fun r_z M1_z q_z => ?_)
  obtain ⟨v_z, e_z, ro1, h2⟩ := q_z
  subst e_z
  simp only [Option.toList_some, Option.toList_none, List.cons_append, List.nil_append, List.append_nil]
  rw [B_0_550]
  refine ⟨⟨by omega, by omega⟩, ki_ro ro1, by omega, by rw [(ro1).2.1]; omega, ⟨by omega, by omega⟩, ki_ro ro1, by omega, by rw [(ro1).2.1]; omega, ro1.2.2.2.2.1, ?_⟩
  rw [ro1.2.2.1]
  refine Call.weak h2 (fun r2 M2_z q_z => ?_)
  obtain ⟨e_z, ro2, iv_z, z2, z3⟩ := q_z
  subst e_z
  simp only [Option.toList_some, Option.toList_none, List.cons_append, List.nil_append, List.append_nil]
  rw [B_0_564]
  exact ⟨fun _ => kont M2_z iv_z ro2 z2 z3, fun w_z => absurd rfl w_z⟩
theorem law_15 {i_z : Int} (h_z : Inv G M b) (ro : RoI B (b + 193) n f M) (i0_z : 0 ≤ i_z) (i1_z : i_z + 6 ≤ n) (n1_z : n ≤ 3072) (rm1 : gz M + 10 ≤ G.1 + 600000) (rm2 : gs M + 1000 ≤ 7302249) (kont : ∀ M2_z, Inv G M2_z b → RoI B (b + 193) n f M2_z → gz M2_z ≤ gz M + 10 → gs M2_z ≤ gs M + 1000 → At G 0 857 [a_r B, a_r (b + 1), a_r (b + 193), a_i i_z] [] M2_z Q) : At G 0 569 [a_r B, a_r (b + 1), a_r (b + 193), a_i i_z] [] M Q := by
  rw [B_0_569]
  refine ⟨⟨by omega, by omega⟩, ki_ro ro, by omega, by rw [(ro).2.1]; omega, ⟨by omega, by omega⟩, ki_ro ro, by omega, by rw [(ro).2.1]; omega, h_z.1.1.1, ?_⟩
  rw [ro.2.2.1]
  refine Call.weak (law_call (s_matrix h_z) ro) (fun r_z M1_z q_z => ?_)
  obtain ⟨v_z, e_z, ro1, h2⟩ := q_z
  subst e_z
  simp only [Option.toList_some, Option.toList_none, List.cons_append, List.nil_append, List.append_nil]
  rw [B_0_583]
  refine ⟨⟨by omega, by omega⟩, ki_ro ro1, by omega, by rw [(ro1).2.1]; omega, ⟨by omega, by omega⟩, ki_ro ro1, by omega, by rw [(ro1).2.1]; omega, ro1.2.2.2.2.1, ?_⟩
  rw [ro1.2.2.1]
  refine Call.weak h2 (fun r2 M2_z q_z => ?_)
  obtain ⟨e_z, ro2, iv_z, z2, z3⟩ := q_z
  subst e_z
  simp only [Option.toList_some, Option.toList_none, List.cons_append, List.nil_append, List.append_nil]
  rw [B_0_597]
  exact ⟨fun _ => kont M2_z iv_z ro2 z2 z3, fun w_z => absurd rfl w_z⟩
theorem law_16 {i_z : Int} (h_z : Inv G M b) (ro : RoI B (b + 193) n f M) (i0_z : 0 ≤ i_z) (i1_z : i_z + 6 ≤ n) (n1_z : n ≤ 3072) (rm1 : gz M + 10 ≤ G.1 + 600000) (rm2 : gs M + 1000 ≤ 7302249) (kont : ∀ M2_z, Inv G M2_z b → RoI B (b + 193) n f M2_z → gz M2_z ≤ gz M + 10 → gs M2_z ≤ gs M + 1000 → At G 0 857 [a_r B, a_r (b + 1), a_r (b + 193), a_i i_z] [] M2_z Q) : At G 0 602 [a_r B, a_r (b + 1), a_r (b + 193), a_i i_z] [] M Q := by
  rw [B_0_602]
  refine ⟨⟨by omega, by omega⟩, ki_ro ro, by omega, by rw [(ro).2.1]; omega, ⟨by omega, by omega⟩, ki_ro ro, by omega, by rw [(ro).2.1]; omega, h_z.1.1.1, ?_⟩
  rw [ro.2.2.1]
  refine Call.weak (law_call (s_trace h_z) ro) (fun r_z M1_z q_z => ?_)
  obtain ⟨v_z, e_z, ro1, h2⟩ := q_z
  subst e_z
  simp only [Option.toList_some, Option.toList_none, List.cons_append, List.nil_append, List.append_nil]
  rw [B_0_616]
  refine ⟨⟨by omega, by omega⟩, ki_ro ro1, by omega, by rw [(ro1).2.1]; omega, ⟨by omega, by omega⟩, ki_ro ro1, by omega, by rw [(ro1).2.1]; omega, ro1.2.2.2.2.1, ?_⟩
  rw [ro1.2.2.1]
  refine Call.weak h2 (fun r2 M2_z q_z => ?_)
  obtain ⟨e_z, ro2, iv_z, z2, z3⟩ := q_z
  subst e_z
  simp only [Option.toList_some, Option.toList_none, List.cons_append, List.nil_append, List.append_nil]
  rw [B_0_630]
  exact ⟨fun _ => kont M2_z iv_z ro2 z2 z3, fun w_z => absurd rfl w_z⟩
theorem law_17 {i_z : Int} (h_z : Inv G M b) (ro : RoI B (b + 193) n f M) (i0_z : 0 ≤ i_z) (i1_z : i_z + 6 ≤ n) (n1_z : n ≤ 3072) (rm1 : gz M + 10 ≤ G.1 + 600000) (rm2 : gs M + 1000 ≤ 7302249) (kont : ∀ M2_z, Inv G M2_z b → RoI B (b + 193) n f M2_z → gz M2_z ≤ gz M + 10 → gs M2_z ≤ gs M + 1000 → At G 0 857 [a_r B, a_r (b + 1), a_r (b + 193), a_i i_z] [] M2_z Q) : At G 0 635 [a_r B, a_r (b + 1), a_r (b + 193), a_i i_z] [] M Q := by
  rw [B_0_635]
  refine ⟨⟨by omega, by omega⟩, ki_ro ro, by omega, by rw [(ro).2.1]; omega, ⟨by omega, by omega⟩, ki_ro ro, by omega, by rw [(ro).2.1]; omega, h_z.1.1.1, ?_⟩
  rw [ro.2.2.1]
  refine Call.weak (law_call (s_cell h_z) ro) (fun r_z M1_z q_z => ?_)
  obtain ⟨v_z, e_z, ro1, h2⟩ := q_z
  subst e_z
  simp only [Option.toList_some, Option.toList_none, List.cons_append, List.nil_append, List.append_nil]
  rw [B_0_649]
  refine ⟨⟨by omega, by omega⟩, ki_ro ro1, by omega, by rw [(ro1).2.1]; omega, ⟨by omega, by omega⟩, ki_ro ro1, by omega, by rw [(ro1).2.1]; omega, ro1.2.2.2.2.1, ?_⟩
  rw [ro1.2.2.1]
  refine Call.weak h2 (fun r2 M2_z q_z => ?_)
  obtain ⟨e_z, ro2, iv_z, z2, z3⟩ := q_z
  subst e_z
  simp only [Option.toList_some, Option.toList_none, List.cons_append, List.nil_append, List.append_nil]
  rw [B_0_663]
  exact ⟨fun _ => kont M2_z iv_z ro2 z2 z3, fun w_z => absurd rfl w_z⟩
theorem law_18 {i_z : Int} (h_z : Inv G M b) (ro : RoI B (b + 193) n f M) (i0_z : 0 ≤ i_z) (i1_z : i_z + 6 ≤ n) (n1_z : n ≤ 3072) (rm1 : gz M + 10 ≤ G.1 + 600000) (rm2 : gs M + 1000 ≤ 7302249) (kont : ∀ M2_z, Inv G M2_z b → RoI B (b + 193) n f M2_z → gz M2_z ≤ gz M + 10 → gs M2_z ≤ gs M + 1000 → At G 0 857 [a_r B, a_r (b + 1), a_r (b + 193), a_i i_z] [] M2_z Q) : At G 0 668 [a_r B, a_r (b + 1), a_r (b + 193), a_i i_z] [] M Q := by
  rw [B_0_668]
  refine ⟨⟨by omega, by omega⟩, ki_ro ro, by omega, by rw [(ro).2.1]; omega, h_z.1.1.1, ?_⟩
  rw [ro.2.2.1]
  refine Call.weak (law_call (s_countColor h_z) ro) (fun r_z M1_z q_z => ?_)
  obtain ⟨v_z, e_z, ro1, h2⟩ := q_z
  subst e_z
  simp only [Option.toList_some, Option.toList_none, List.cons_append, List.nil_append, List.append_nil]
  rw [B_0_677]
  refine ⟨⟨by omega, by omega⟩, ki_ro ro1, by omega, by rw [(ro1).2.1]; omega, ro1.2.2.2.2.1, ?_⟩
  rw [ro1.2.2.1]
  refine Call.weak h2 (fun r2 M2_z q_z => ?_)
  obtain ⟨e_z, ro2, iv_z, z2, z3⟩ := q_z
  subst e_z
  simp only [Option.toList_some, Option.toList_none, List.cons_append, List.nil_append, List.append_nil]
  rw [B_0_686]
  exact ⟨fun _ => kont M2_z iv_z ro2 z2 z3, fun w_z => absurd rfl w_z⟩
theorem law_19 {i_z : Int} (h_z : Inv G M b) (ro : RoI B (b + 193) n f M) (i0_z : 0 ≤ i_z) (i1_z : i_z + 6 ≤ n) (n1_z : n ≤ 3072) (rm1 : gz M + 10 ≤ G.1 + 600000) (rm2 : gs M + 1000 ≤ 7302249) (kont : ∀ M2_z, Inv G M2_z b → RoI B (b + 193) n f M2_z → gz M2_z ≤ gz M + 10 → gs M2_z ≤ gs M + 1000 → At G 0 857 [a_r B, a_r (b + 1), a_r (b + 193), a_i i_z] [] M2_z Q) : At G 0 691 [a_r B, a_r (b + 1), a_r (b + 193), a_i i_z] [] M Q := by
  rw [B_0_691]
  refine ⟨⟨by omega, by omega⟩, ki_ro ro, by omega, by rw [(ro).2.1]; omega, ⟨by omega, by omega⟩, ki_ro ro, by omega, by rw [(ro).2.1]; omega, h_z.1.1.1, ?_⟩
  rw [ro.2.2.1]
  refine Call.weak (law_call (s_itemAt h_z) ro) (fun r_z M1_z q_z => ?_)
  obtain ⟨v_z, e_z, ro1, h2⟩ := q_z
  subst e_z
  simp only [Option.toList_some, Option.toList_none, List.cons_append, List.nil_append, List.append_nil]
  rw [B_0_705]
  refine ⟨⟨by omega, by omega⟩, ki_ro ro1, by omega, by rw [(ro1).2.1]; omega, ⟨by omega, by omega⟩, ki_ro ro1, by omega, by rw [(ro1).2.1]; omega, ro1.2.2.2.2.1, ?_⟩
  rw [ro1.2.2.1]
  refine Call.weak h2 (fun r2 M2_z q_z => ?_)
  obtain ⟨e_z, ro2, iv_z, z2, z3⟩ := q_z
  subst e_z
  simp only [Option.toList_some, Option.toList_none, List.cons_append, List.nil_append, List.append_nil]
  rw [B_0_719]
  exact ⟨fun _ => kont M2_z iv_z ro2 z2 z3, fun w_z => absurd rfl w_z⟩
theorem law_20 {i_z : Int} (h_z : Inv G M b) (ro : RoI B (b + 193) n f M) (i0_z : 0 ≤ i_z) (i1_z : i_z + 6 ≤ n) (n1_z : n ≤ 3072) (rm1 : gz M + 10 ≤ G.1 + 600000) (rm2 : gs M + 1000 ≤ 7302249) (kont : ∀ M2_z, Inv G M2_z b → RoI B (b + 193) n f M2_z → gz M2_z ≤ gz M + 10 → gs M2_z ≤ gs M + 1000 → At G 0 857 [a_r B, a_r (b + 1), a_r (b + 193), a_i i_z] [] M2_z Q) : At G 0 724 [a_r B, a_r (b + 1), a_r (b + 193), a_i i_z] [] M Q := by
  rw [B_0_724]
  refine ⟨⟨by omega, by omega⟩, ki_ro ro, by omega, by rw [(ro).2.1]; omega, ⟨by omega, by omega⟩, ki_ro ro, by omega, by rw [(ro).2.1]; omega, h_z.1.1.1, ?_⟩
  rw [ro.2.2.1]
  refine Call.weak (law_call (s_item h_z) ro) (fun r_z M1_z q_z => ?_)
  obtain ⟨v_z, e_z, ro1, h2⟩ := q_z
  subst e_z
  simp only [Option.toList_some, Option.toList_none, List.cons_append, List.nil_append, List.append_nil]
  rw [B_0_738]
  refine ⟨⟨by omega, by omega⟩, ki_ro ro1, by omega, by rw [(ro1).2.1]; omega, ⟨by omega, by omega⟩, ki_ro ro1, by omega, by rw [(ro1).2.1]; omega, ro1.2.2.2.2.1, ?_⟩
  rw [ro1.2.2.1]
  refine Call.weak h2 (fun r2 M2_z q_z => ?_)
  obtain ⟨e_z, ro2, iv_z, z2, z3⟩ := q_z
  subst e_z
  simp only [Option.toList_some, Option.toList_none, List.cons_append, List.nil_append, List.append_nil]
  rw [B_0_752]
  exact ⟨fun _ => kont M2_z iv_z ro2 z2 z3, fun w_z => absurd rfl w_z⟩
theorem law_21 {i_z : Int} (h_z : Inv G M b) (ro : RoI B (b + 193) n f M) (i0_z : 0 ≤ i_z) (i1_z : i_z + 6 ≤ n) (n1_z : n ≤ 3072) (rm1 : gz M + 10 ≤ G.1 + 600000) (rm2 : gs M + 1000 ≤ 7302249) (kont : ∀ M2_z, Inv G M2_z b → RoI B (b + 193) n f M2_z → gz M2_z ≤ gz M + 10 → gs M2_z ≤ gs M + 1000 → At G 0 857 [a_r B, a_r (b + 1), a_r (b + 193), a_i i_z] [] M2_z Q) : At G 0 757 [a_r B, a_r (b + 1), a_r (b + 193), a_i i_z] [] M Q := by
  rw [B_0_757]
  refine ⟨⟨by omega, by omega⟩, ki_ro ro, by omega, by rw [(ro).2.1]; omega, ⟨by omega, by omega⟩, ki_ro ro, by omega, by rw [(ro).2.1]; omega, ⟨by omega, by omega⟩, ki_ro ro, by omega, by rw [(ro).2.1]; omega, h_z.1.1.1, ?_⟩
  rw [ro.2.2.1]
  refine Call.weak (law_call (s_point h_z) ro) (fun r_z M1_z q_z => ?_)
  obtain ⟨v_z, e_z, ro1, h2⟩ := q_z
  subst e_z
  simp only [Option.toList_some, Option.toList_none, List.cons_append, List.nil_append, List.append_nil]
  rw [B_0_776]
  refine ⟨⟨by omega, by omega⟩, ki_ro ro1, by omega, by rw [(ro1).2.1]; omega, ⟨by omega, by omega⟩, ki_ro ro1, by omega, by rw [(ro1).2.1]; omega, ⟨by omega, by omega⟩, ki_ro ro1, by omega, by rw [(ro1).2.1]; omega, ro1.2.2.2.2.1, ?_⟩
  rw [ro1.2.2.1]
  refine Call.weak h2 (fun r2 M2_z q_z => ?_)
  obtain ⟨e_z, ro2, iv_z, z2, z3⟩ := q_z
  subst e_z
  simp only [Option.toList_some, Option.toList_none, List.cons_append, List.nil_append, List.append_nil]
  rw [B_0_795]
  exact ⟨fun _ => kont M2_z iv_z ro2 z2 z3, fun w_z => absurd rfl w_z⟩
theorem law_22 {i_z : Int} (h_z : Inv G M b) (ro : RoI B (b + 193) n f M) (i0_z : 0 ≤ i_z) (i1_z : i_z + 6 ≤ n) (n1_z : n ≤ 3072) (rm1 : gz M + 10 ≤ G.1 + 600000) (rm2 : gs M + 1000 ≤ 7302249) (kont : ∀ M2_z, Inv G M2_z b → RoI B (b + 193) n f M2_z → gz M2_z ≤ gz M + 10 → gs M2_z ≤ gs M + 1000 → At G 0 857 [a_r B, a_r (b + 1), a_r (b + 193), a_i i_z] [] M2_z Q) : At G 0 800 [a_r B, a_r (b + 1), a_r (b + 193), a_i i_z] [] M Q := by
  rw [B_0_800]
  refine ⟨⟨by omega, by omega⟩, ki_ro ro, by omega, by rw [(ro).2.1]; omega, ⟨by omega, by omega⟩, ki_ro ro, by omega, by rw [(ro).2.1]; omega, h_z.1.1.1, ?_⟩
  rw [ro.2.2.1]
  refine Call.weak (law_call (s_bound h_z) ro) (fun r_z M1_z q_z => ?_)
  obtain ⟨v_z, e_z, ro1, h2⟩ := q_z
  subst e_z
  simp only [Option.toList_some, Option.toList_none, List.cons_append, List.nil_append, List.append_nil]
  rw [B_0_814]
  refine ⟨⟨by omega, by omega⟩, ki_ro ro1, by omega, by rw [(ro1).2.1]; omega, ⟨by omega, by omega⟩, ki_ro ro1, by omega, by rw [(ro1).2.1]; omega, ro1.2.2.2.2.1, ?_⟩
  rw [ro1.2.2.1]
  refine Call.weak h2 (fun r2 M2_z q_z => ?_)
  obtain ⟨e_z, ro2, iv_z, z2, z3⟩ := q_z
  subst e_z
  simp only [Option.toList_some, Option.toList_none, List.cons_append, List.nil_append, List.append_nil]
  rw [B_0_828]
  exact ⟨fun _ => kont M2_z iv_z ro2 z2 z3, fun w_z => absurd rfl w_z⟩
theorem law_23 {i_z : Int} (h_z : Inv G M b) (ro : RoI B (b + 193) n f M) (i0_z : 0 ≤ i_z) (i1_z : i_z + 6 ≤ n) (n1_z : n ≤ 3072) (rm1 : gz M + 10 ≤ G.1 + 600000) (rm2 : gs M + 1000 ≤ 7302249) (kont : ∀ M2_z, Inv G M2_z b → RoI B (b + 193) n f M2_z → gz M2_z ≤ gz M + 10 → gs M2_z ≤ gs M + 1000 → At G 0 857 [a_r B, a_r (b + 1), a_r (b + 193), a_i i_z] [] M2_z Q) : At G 0 833 [a_r B, a_r (b + 1), a_r (b + 193), a_i i_z] [] M Q := by
  rw [B_0_833]
  refine ⟨⟨by omega, by omega⟩, ki_ro ro, by omega, by rw [(ro).2.1]; omega, h_z.1.1.1, ?_⟩
  rw [ro.2.2.1]
  refine Call.weak (law_callL (s_doubleArea h_z) ro) (fun r_z M1_z q_z => ?_)
  obtain ⟨v_z, e_z, ro1, h2⟩ := q_z
  subst e_z
  simp only [Option.toList_some, Option.toList_none, List.cons_append, List.nil_append, List.append_nil]
  rw [B_0_842]
  refine ⟨⟨by omega, by omega⟩, ki_ro ro1, by omega, by rw [(ro1).2.1]; omega, ro1.2.2.2.2.1, ?_⟩
  rw [ro1.2.2.1]
  refine Call.weak h2 (fun r2 M2_z q_z => ?_)
  obtain ⟨e_z, ro2, iv_z, z2, z3⟩ := q_z
  subst e_z
  simp only [Option.toList_some, Option.toList_none, List.cons_append, List.nil_append, List.append_nil]
  rw [B_0_851]
  exact ⟨fun _ => kont M2_z iv_z ro2 z2 z3, fun w_z => absurd (zc_eq.mpr rfl) w_z⟩
theorem law_loop (n0_z : 0 ≤ n) (n1_z : n ≤ 3072) : ∀ (d_z : Nat) (M : Mem) (i_z : Int), 0 ≤ i_z → i_z ≤ 4000 → n - 5 - i_z ≤ 6 * (d_z : Int) → Inv G M b → RoI B (b + 193) n f M → gz M + 10 * d_z ≤ G.1 + 600000 → gs M + d_z * 1000 ≤ 7302249 → At G 0 18 [a_r B, a_r (b + 1), a_r (b + 193), a_i i_z] [] M (fun r_z _ => r_z = some (a_i 1)) := by
  intro d_z
  induction d_z with
  | zero =>
    intro M i_z i0_z i2_z hd_z h_z ro rm1 rm2
    rw [B_0_18, ro.1, ro.2.1]
    refine ⟨by decide, ⟨by omega, by omega⟩, fun _ => ?_, fun w_z => absurd (by omega) w_z⟩
    rw [B_0_863]
    exact ⟨Or.inr rfl, rfl⟩
  | succ d_z ih_z =>
    intro M i_z i0_z i2_z hd_z h_z ro rm1 rm2
    rw [Nat.succ_mul] at rm2
    by_cases c_z : n - 6 < i_z
    · rw [B_0_18, ro.1, ro.2.1]
      refine ⟨by decide, ⟨by omega, by omega⟩, fun _ => ?_, fun w_z => absurd c_z w_z⟩
      rw [B_0_863]
      exact ⟨Or.inr rfl, rfl⟩
    · have k857 : ∀ M2_z, Inv G M2_z b → RoI B (b + 193) n f M2_z → gz M2_z ≤ gz M + 10 → gs M2_z ≤ gs M + 1000 → At G 0 857 [a_r B, a_r (b + 1), a_r (b + 193), a_i i_z] [] M2_z (fun r_z _ => r_z = some (a_i 1)) := fun M2_z iv_z ro2 z2 z3 => by
        rw [B_0_857]
        exact ⟨⟨by omega, by omega⟩, ih_z M2_z (i_z + 6) (by omega) (by omega) (by omega) iv_z ro2 (by omega) (Nat.le_trans (Nat.add_le_add_right z3 (d_z * 1000)) (by rw [Nat.add_assoc, Nat.add_comm 1000 (d_z * 1000)]; exact rm2))⟩
      have i1_z : i_z + 6 ≤ n := by omega
      have r1_z : gz M + 10 ≤ G.1 + 600000 := by omega
      have r2 : gs M + 1000 ≤ 7302249 := Nat.le_trans (Nat.add_le_add_left (Nat.le_add_left 1000 (d_z * 1000)) (gs M)) rm2
      rw [B_0_18]
      refine ⟨by rw [ro.1]; decide, ⟨by rw [ro.2.1]; omega, by rw [ro.2.1]; omega⟩, fun w_z => absurd (by rw [ro.2.1] at w_z; exact w_z) c_z, fun _ => ⟨ki_ro ro, i0_z, by rw [ro.2.1]; omega, fun _ => k857 M h_z ro (Nat.le_add_right _ _) (Nat.le_add_right _ _), fun _ => law_0 h_z ro i0_z i1_z n1_z r1_z r2 k857, fun _ => law_1 h_z ro i0_z i1_z n1_z r1_z r2 k857, fun _ => law_2 h_z ro i0_z i1_z n1_z r1_z r2 k857, fun _ => law_3 h_z ro i0_z i1_z n1_z r1_z r2 k857, fun _ => law_4 h_z ro i0_z i1_z n1_z r1_z r2 k857, fun _ => law_5 h_z ro i0_z i1_z n1_z r1_z r2 k857, fun _ => law_6 h_z ro i0_z i1_z n1_z r1_z r2 k857, fun _ => law_7 h_z ro i0_z i1_z n1_z r1_z r2 k857, fun _ => law_8 h_z ro i0_z i1_z n1_z r1_z r2 k857, fun _ => law_9 h_z ro i0_z i1_z n1_z r1_z r2 k857, fun _ => law_10 h_z ro i0_z i1_z n1_z r1_z r2 k857, fun _ => law_11 h_z ro i0_z i1_z n1_z r1_z r2 k857, fun _ => law_12 h_z ro i0_z i1_z n1_z r1_z r2 k857, fun _ => law_13 h_z ro i0_z i1_z n1_z r1_z r2 k857, fun _ => law_14 h_z ro i0_z i1_z n1_z r1_z r2 k857, fun _ => law_15 h_z ro i0_z i1_z n1_z r1_z r2 k857, fun _ => law_16 h_z ro i0_z i1_z n1_z r1_z r2 k857, fun _ => law_17 h_z ro i0_z i1_z n1_z r1_z r2 k857, fun _ => law_18 h_z ro i0_z i1_z n1_z r1_z r2 k857, fun _ => law_19 h_z ro i0_z i1_z n1_z r1_z r2 k857, fun _ => law_20 h_z ro i0_z i1_z n1_z r1_z r2 k857, fun _ => law_21 h_z ro i0_z i1_z n1_z r1_z r2 k857, fun _ => law_22 h_z ro i0_z i1_z n1_z r1_z r2 k857, fun _ => law_23 h_z ro i0_z i1_z n1_z r1_z r2 k857, trivial⟩⟩
end LW
