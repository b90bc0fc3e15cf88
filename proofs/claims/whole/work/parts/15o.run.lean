/-! THE PURE PART, part 15: a run, both sides. Own work. -/
def lisC : List Nat := [14, 15, 27, 30, 31, 42, 59, 65, 73, 77, 78, 79, 80, 81, 82, 83, 84, 85, 86, 87, 88, 89, 90, 91, 92, 93, 94, 95, 96, 97, 98, 99, 100, 101, 102, 103, 104, 105, 106, 107, 108, 109, 110, 111, 112, 113, 114, 115, 116, 117, 118, 119, 120, 121, 122, 123, 124, 125, 126, 127, 128, 129, 130]
def lisM : List Nat := [170, 177, 197, 198, 199, 200, 201, 202, 203, 204, 205, 206, 207, 208, 209, 210, 211, 212, 213, 214, 215, 216, 217, 218, 219, 220, 221, 222, 223, 224, 225, 226, 227, 228, 229, 230, 231, 232, 233, 234, 235, 236, 237, 238, 239]
def p0C (j_z : Nat) : Nat := if Nat.beq j_z 73 then 9 else 0
def p0M (j_z : Nat) : Nat := if Nat.beq j_z 197 then 131 else 0
theorem chk_C : lisC.all (fun j_z => chkF 5 [10] lisC p0C (p0C j_z) (tab j_z).2) = true := by decide +kernel
theorem chk_M : lisM.all (fun j_z => chkF 11 [2, 4, 45] lisM p0M (p0M j_z) (tab j_z).2) = true := by decide +kernel
/-- how much a run can do -/
def bigE (T : Mem) (m : Nat) : Int := 500000 + lnm T m 0 + 1
theorem ShMa.cg3 {M M' : Mem} {c : Nat} (h_z : ShMa M c) (eK : gK M' = gK M) (eN_z : gN M' = gN M) (eR : ∀ (a_z : Nat) (j_z : Int), ¬ (gK M a_z = 8 ∧ j_z = 3) → gR M' a_z j_z = gR M a_z j_z) : ShMa M' c := by
  obtain ⟨h1, h2, h3, h4, h5⟩ := h_z
  have k1_z := h1.u.1
  have k2_z := h2.u.1
  have k3_z := h3.u.1
  have ka : gK M (c + 1) = 117 ∧ gK M (c + 2) = 118 := by
    have q_z := h1.u
    exact ⟨by simp only [q_z], by simp only [q_z]⟩
  refine ⟨?_, ?_, ?_, fun l hl => ?_, fun t_z ht => ?_⟩
  · unfold ShM0 ShM0x at h1 ⊢
    rw [eK, eN_z, eR c 0 (by omega), eR c 1 (by omega), eR c 2 (by omega), eR c 3 (by omega), eR c 4 (by omega), eR c 5 (by omega), eR c 6 (by omega), eR c 7 (by omega), eR c 8 (by omega)]
    exact h1
  · unfold ShPa ShPax at h2 ⊢
    rw [eK, eN_z, eR (c + 4) 0 (by omega), eR (c + 4) 1 (by omega), eR (c + 4) 2 (by omega), eR (c + 4) 3 (by omega), eR (c + 4) 4 (by omega)]
    exact h2
  · unfold ShIt ShItx at h3 ⊢
    rw [eK, eN_z, eR (c + 3) 0 (by omega), eR (c + 3) 1 (by omega), eR (c + 3) 2 (by omega), eR (c + 3) 3 (by omega), eR (c + 3) 4 (by omega), eR (c + 3) 5 (by omega), eR (c + 3) 6 (by omega), eR (c + 3) 7 (by omega)]
    exact h3
  · obtain ⟨a1_z, a2⟩ := h4 l hl
    refine ⟨by rw [eR (c + 1) _ (by omega)]; exact a1_z, ?_⟩
    unfold ShFr ShFrx at a2 ⊢
    rw [eK, eN_z, eR _ 0 (by omega), eR _ 1 (by omega), eR _ 2 (by omega)]
    exact a2
  · obtain ⟨a1_z, a2⟩ := h5 t_z ht
    refine ⟨by rw [eR (c + 2) _ (by omega)]; exact a1_z, ?_⟩
    unfold ShGr ShGrx at a2 ⊢
    rw [eK, eN_z, eR _ 0 (by omega), eR _ 1 (by omega)]
    exact a2
section BH
variable {G : Env0} {Q : Option AV → Mem → Prop} {M T : Mem} {c s m : Nat}
theorem HC_keep {i_z : Int} (hs : ShMa M c) (ht : ∀ k_z, isT (gI M (c + 9) k_z)) (h_z : HC G c s i_z M Q) : HC G c s i_z M (fun r_z M' => Q r_z M' ∧ gI M' c 10 = gI M c 10 ∧ ∀ k_z, isT (gI M' (c + 9) k_z)) := fun u4_z u5 u6 u7 => by
  have h8 : gK M (c + 9) = 102 := by
    have q_z := hs.2.1.u
    simp only [q_z]
  exact At.weak (fun r_z M' q_z => ⟨q_z.1, q_z.2.1.2.2 10 (List.mem_singleton.mpr rfl), q_z.2.2.2⟩) (At.keep (A_z := lisC) (P0_z := p0C) ((stab_F (o := c) (k0 := 5) (F := [10]) (M0 := M) (by decide)).and (stab_T (o := c + 9) (M0 := M) h8)) (fun j_z hj => List.all_eq_true.mp chk_C j_z (List.contains_iff_mem.mp hj)) (by decide) (by decide) ⟨⟨rfl, hs.1.1, fun _ _ => rfl⟩, rfl, ht⟩ (h_z u4_z u5 u6 u7))
theorem HC_sh {i_z : Int} (hs : ShMa M c) (hO : ∀ r_z M', Q r_z M' → gN M' = gN M) (h_z : HC G c s i_z M Q) : HC G c s i_z M (fun r_z M' => Q r_z M' ∧ ShMa M' c) := fun u4_z u5 u6 u7 => At.weak (fun r_z M' q_z => ⟨q_z.1, hs.cg3 q_z.2.1 (hO r_z M' q_z.1) q_z.2.2⟩) (At.keep (A_z := lisC) (P0_z := p0C) (stab_R (k0 := 5) (F := [10]) (M0 := M)) (fun j_z hj => List.all_eq_true.mp chk_C j_z (List.contains_iff_mem.mp hj)) (by decide) (by decide) ⟨rfl, fun _ _ _ => rfl⟩ (h_z u4_z u5 u6 u7))
theorem HM_keep (hk : gK T m = 11) (h_z : HM G m T Q) : HM G m T (fun r_z M' => Q r_z M' ∧ gI M' m 2 = gI T m 2 ∧ gI M' m 4 = gI T m 4 ∧ gI M' m 45 = gI T m 45) := At.weak (fun r_z M' q_z => ⟨q_z.1, q_z.2.2.2 2 (by decide), q_z.2.2.2 4 (by decide), q_z.2.2.2 45 (by decide)⟩) (At.keep (A_z := lisM) (P0_z := p0M) (stab_F (o := m) (k0 := 11) (F := [2, 4, 45]) (M0 := T) (by decide)) (fun j_z hj => List.all_eq_true.mp chk_M j_z (List.contains_iff_mem.mp hj)) (by decide) (by decide) ⟨rfl, hk, fun _ _ => rfl⟩ h_z)
/-- the relation at the start of a_z run -/
theorem rel_0 {M1_z T1 : Mem} (hs : ShMa M c) (hm_z : ShM T m) (ho : OpF G M) (hsc : s + 5 ≤ c) (hg : ∀ i_z, (i_z < 26 ∧ i_z ≠ 2) → G.2 i_z < s) (hpr : ∀ x_z : Int, 0 ≤ x_z → x_z < 7 → gR M (s + 1) x_z = 0 ∨ c + 147 ≤ gR M (s + 1) x_z) (hed : EdR G M T s m) (h8 : isT (gI M (c + 9) 0)) (h0 : 0 ≤ lnm T m 0) (hC : PrC M M1_z c s (gR M (s + 1) 0)) (hT_z : PrT T T1 m) : Rel G M1_z T1 c s m (bigE T1 m) ∧ OutC c M M1_z ∧ ShMa M1_z c := by
  obtain ⟨⟨a1_z, a2, a3, a4⟩, a5, a6, a7, a8, a9, a10, ⟨b10, b11, b12, b13, b14, b15⟩, ⟨d5_z, d6_z, d7_z⟩, d8_z, d9_z, ⟨e2_z, e3_z⟩, ⟨f4_z, f5_z, f6_z, f7_z, n8, -⟩⟩ := hC
  obtain ⟨t1_z, t2_z, ⟨t45, t46, t49, t50, t35, t33, t19, t25, t26, t27, t36⟩, -, t6, t17, t18, t20, t22⟩ := hT_z
  have hs1 : ShMa M1_z c := hs.cg2 a1_z a2 (fun a_z j_z a0_z n0_z n1_z => a5 a_z j_z n1_z (by omega))
  have o : OutC c M M1_z := ⟨a1_z, a2, a3, a4, fun r_z hr => ⟨a10 r_z (by omega) (by omega) (by omega) (by omega) (by omega) (by omega) (by omega), a8 r_z (by omega), by funext j_z; exact a5 r_z j_z (by omega) (by omega)⟩⟩
  have m1_z : gI T1 (m + 1) = gI T (m + 1) := t2_z _ (by omega) (by omega) (by omega) (by omega) (by omega) (by omega)
  have hed1 := EdR.out hed o hsc hpr m1_z
  have hbud := hed1.2.2.2.2.2.2
  have hln : 0 ≤ lnm T1 m 0 := by
    unfold lnm at h0 ⊢
    rw [m1_z]
    exact h0
  have s1r : gR M1_z (s + 1) = gR M (s + 1) := (o.row (r_z := s + 1) (by omega)).2.2
  refine ⟨⟨hs1, Ex.sh t1_z hm_z, OpF.out ho o hg hsc, ⟨hsc, a6, hg, fun x_z x0_z x1_z => by rw [s1r]; exact hpr x_z x0_z x1_z⟩, hed1, ⟨by rw [b13, t49], by omega, by omega, fun i_z i0_z i1_z => by omega⟩, ?_, ?_, ?_, ⟨by rw [d9_z, t35], by omega, by omega, fun i_z i0_z i1_z => by omega⟩, ⟨by rw [b14, t50], b15, t46⟩, by omega⟩, o, hs1⟩
  · have z22 : c + 22 + 4 * 0 = c + 22 := rfl
    have sc0 : sc M1_z T1 m (c + 22) 0 = ([], false) := by
      unfold sc
      rw [f5_z]
      rfl
    refine ⟨⟨by rw [b11, t36], by omega, by omega⟩, fun l hl => ?_, t17, fun _ => 0, fun _ => 0, rfl, rfl, fun l hl => by omega, ?_, ?_, ?_⟩
    · rw [b11] at hl ⊢
      have l0 : l = 0 := by omega
      subst l0
      rw [if_neg (by decide), z22]
      have c0_z : ((0 : Nat) : Int) = 0 := rfl
      rw [c0_z, t18]
      unfold FrL
      rw [t17, t20, t22, f4_z, f5_z, f6_z, f7_z, a7, s1r]
      exact ⟨⟨by decide, by decide, by decide⟩, ⟨rfl, hln⟩, ⟨by decide, by decide, hln⟩, ⟨rfl, by decide, by decide⟩, fun i_z i0_z i1_z => by omega, ⟨rfl, by decide, by decide⟩, fun i_z i0_z i1_z => by omega, rfl⟩
    · rw [b11, b12]
      show (0 : Int) = 0 + ((nsv (sc M1_z T1 m (c + 22) 0).1 : Nat) : Int)
      rw [sc0]
      rfl
    · rw [b11, t25]
      show (sc M1_z T1 m (c + 22) 0).2 = true ↔ _
      rw [sc0]
      exact ⟨fun q_z => by simp at q_z, fun q_z => by omega⟩
    · rw [b11, b13]
      show bigE T1 m = (200 - 0) * 2500 + 0 + wrk M1_z T1 m (c + 22) 0
      unfold wrk bigE
      rw [t17, f5_z, f7_z]
      have : lft (gI M1_z (c + 22 + 3)) 0 = 0 := by simp [lft]
      rw [this]
      omega
  · have z42_z : c + 42 + 3 * (0 : Int).toNat = c + 42 := rfl
    refine ⟨by rw [b12, t19], by omega, by omega, ?_, fun t_z ht => by omega⟩
    rw [b12, z42_z]
    unfold GrR
    rw [e2_z, e3_z, t6 12 (by decide) (by decide), t6 13 (by decide) (by decide)]
    refine ⟨fun i_z i0_z i1_z => ?_, by decide, ⟨by decide, by decide⟩, by decide, by decide, by decide, fun i_z i0_z i1_z => by omega⟩
    have e43 : c + 42 + 1 = c + 43 := rfl
    rw [e43, a9 i_z i0_z i1_z, t6 i_z i0_z (by omega), t6 (6 + i_z) (by omega) (by omega)]
    have : i_z = 0 ∨ i_z = 1 ∨ i_z = 2 ∨ i_z = 3 ∨ i_z = 4 ∨ i_z = 5 := by omega
    rcases this with e_z | e_z | e_z | e_z | e_z | e_z <;> subst e_z <;> decide
  · unfold PaR
    rw [d5_z, d6_z, d7_z, t33, b13, d8_z, t25, t26, t27]
    have h8' : gI M1_z (c + 9) 0 = 0 ∨ gI M1_z (c + 9) 0 = 1 := by
      exact Or.inl n8
    exact ⟨⟨by decide, by decide⟩, ⟨by decide, by decide⟩, ⟨by decide, by decide⟩, ⟨by decide, by decide⟩, ⟨by decide, by decide, fun i_z i0_z i1_z => by omega, by decide, fun _ => rfl, fun q_z => by omega, fun j_z j0 j1 => by omega, fun j_z j0 j1 => by omega, fun i_z i0_z i1_z => by omega⟩, fun _ => rfl, Or.inl ⟨rfl, rfl⟩, h8'⟩
theorem run_both (hs : ShMa M c) (hm_z : ShM T m) (ho : OpF G M) (hsc : s + 5 ≤ c) (hg : ∀ i_z, (i_z < 26 ∧ i_z ≠ 2) → G.2 i_z < s) (hpr : ∀ x_z : Int, 0 ≤ x_z → x_z < 7 → gR M (s + 1) x_z = 0 ∨ c + 147 ≤ gR M (s + 1) x_z) (hed : EdR G M T s m) (h8 : ∀ k_z, isT (gI M (c + 9) k_z)) (h0 : 0 ≤ lnm T m 0)
    (hQ : ∀ M2_z e_z, OutC c M M2_z → ShMa M2_z c → gI M2_z c 10 = 1 → (∀ k_z, isT (gI M2_z (c + 9) k_z)) → (∀ T', ShM T' m → EdR G M T' s m → 0 ≤ lnm T' m 0 → ∀ R_z, (∀ T2, OutM m T' T2 → gI T2 m 45 = 1 → gI T2 m 2 = gI T' m 2 → gI T2 m 4 = gI T' m 4 → RsR M2_z T2 c m → R_z (some (a_i e_z)) T2) → Call G J_M_run [a_r m] T' R_z) → Q (some (a_i e_z)) M2_z) : Call G J_Ma_execute [a_r c, a_r s] M Q := by
  -- the model's memory once its run begins: there is one
  obtain ⟨T1, hT1⟩ : ∃ T1, PrT T T1 m := by
    refine Classical.byContradiction (fun no_z => ?_)
    have hh : Call G J_M_run [a_r m] T (fun _ _ => False) := X_runT0 hm_z h0 (fun T1 hT_z => absurd ⟨T1, hT_z⟩ no_z)
    obtain ⟨_, _, q_z⟩ := At.ex hh
    exact q_z
  have bg : Call G J_Ma_begin [a_r c, a_r s] M (fun r_z M1_z => At G 73 5 [a_r c, a_r s, a_u, a_u, a_u, a_u, a_u, a_u] r_z.toList M1_z Q) := by
    refine X_maBeg hs hed.1 hsc rfl (fun M1_z hC => ?_)
    obtain ⟨hrel, o1, hs1⟩ := rel_0 hs hm_z ho hsc hg hpr hed (h8 0) h0 hC hT1
    have k8_z : gK M1_z (c + 9) = 102 := by
      have q_z := hs1.2.1.u
      simp only [q_z]
    have t8 : ∀ k_z, isT (gI M1_z (c + 9) k_z) := fun k_z => by
      by_cases q_z : k_z = 0
      · subst q_z
        rw [hC.b8.1]
        exact Or.inl rfl
      · rw [hC.b8.2 k_z q_z]
        exact h8 k_z
    have c10_z := hC.2.2.2.2.2.2.2.1.1
    have lnb : lnm T1 m 0 < 160 := by
      have e_z : lnm T1 m 0 = lnm T m 0 := by
        unfold lnm
        rw [hT1.2.1 (m + 1) (by omega) (by omega) (by omega) (by omega) (by omega) (by omega)]
      have pg := (hed.prog (x_z := 0) (by decide) (by decide) h0).2.2.2.1
      omega
    have lp : HC G c s 0 M1_z (fun r_z M2_z => (∃ e_z : Int, r_z = some (a_i e_z) ∧ OutC c M M2_z ∧ ∀ T', ShM T' m → EdR G M T' s m → 0 ≤ lnm T' m 0 → ∀ R_z, (∀ T2, OutM m T' T2 → gI T2 m 45 = 1 → gI T2 m 2 = gI T' m 2 → gI T2 m 4 = gI T' m 4 → RsR M2_z T2 c m → R_z (some (a_i e_z)) T2) → Call G J_M_run [a_r m] T' R_z)) := by
      refine run_loop (bigE T1 m).toNat (bigE T1 m) 0 M1_z T1 _ (by omega) hrel (by decide) (by unfold bigE; omega) (fun M2_z e_z o2 sim => ⟨e_z, rfl, o1.trans o2, fun T' hm' hed' h0' R_z hR => ?_⟩)
      · refine X_runT0 hm' h0' (fun T1' hT' => ?_)
        obtain ⟨hrel', -, -⟩ := rel_0 hs hm' ho hsc hg hpr hed' (h8 0) h0' hC hT'
        have eE : bigE T1' m = bigE T1 m := by
          have l1 : lnm T1' m 0 = lnm T' m 0 := by
            unfold lnm
            rw [hT'.2.1 (m + 1) (by omega) (by omega) (by omega) (by omega) (by omega) (by omega)]
          have l2 : lnm T1 m 0 = lnm T m 0 := by
            unfold lnm
            rw [hT1.2.1 (m + 1) (by omega) (by omega) (by omega) (by omega) (by omega) (by omega)]
          have g1 := (hed.prog (x_z := 0) (by decide) (by decide) h0).2.2.1
          have g2 := (hed'.prog (x_z := 0) (by decide) (by decide) h0').2.2.1
          unfold bigE
          omega
        rw [eE] at hrel'
        obtain ⟨p1_z, p2_z, ⟨p45, -⟩, ⟨p3_z, p4_z⟩, -⟩ := hT'
        have hk : gK T1' m = 11 := (Ex.sh p1_z hm').1
        have key_z := sim T1' hrel' (fun r_z T2 => ∃ e', r_z = some (a_i e_z) ∧ OutM m T1' T2 ∧ RsR M2_z T2 c m ∧ e' = e_z) (fun T2 o3_z rs => ⟨e_z, rfl, o3_z, rs, rfl⟩)
        refine At.weak (fun r_z T2 q_z => ?_) (HM_keep hk key_z)
        obtain ⟨⟨e', q1_z, q2_z, q3_z, -⟩, q4_z, q5_z, q6_z⟩ := q_z
        subst q1_z
        exact hR T2 (Ex.trans p1_z q2_z) (by rw [q6_z]; exact p45) (by rw [q4_z]; exact p3_z) (by rw [q5_z]; exact p4_z) q3_z
    have lp2 := HC_sh hs1 (fun r_z M' q_z => by obtain ⟨⟨e_z, q1_z, q2_z, q3_z⟩, -⟩ := q_z; exact q2_z.2.1.trans o1.2.1.symm) (HC_keep hs1 t8 lp)
    simp (disch := omega) only [B_73_5, Option.toList_some, Option.toList_none, List.cons_append, List.nil_append, List.append_nil]
    refine At.weak (fun r_z M2_z q_z => ?_) (lp2 a_u a_u a_u a_u)
    obtain ⟨⟨⟨e_z, q1_z, q2_z, q4_z⟩, q5_z, q6_z⟩, q3_z⟩ := q_z
    subst q1_z
    exact hQ M2_z e_z q2_z q3_z (by rw [q5_z]; exact c10_z) q6_z q4_z
  simp (disch := omega) only [E_Ma_execute, B_73_0, hs.1.u, inI, inL, isT, kInt, kByt, true_and, and_true, an_t, im_t, im_f, or_true, true_or, true_imp_iff, false_imp_iff, not_true_eq_false, not_false_eq_true, Option.toList_some, Option.toList_none, List.cons_append, List.nil_append, List.append_nil]
  all_goals exact bg
end BH
