/-! THE PURE PART, part 15: draw. Own work. -/
theorem bgM_g {T : Mem} {m : Nat} {d_z f_z dp : Int} : ∀ T4, T4 = bgM T m d_z f_z dp → Ex (fun r => m ≤ r ∧ r < m + 29 ∧ ¬ (m + 1 ≤ r ∧ r ≤ m + 3)) T T4 ∧ (∀ j_z, j_z ≠ 36 → j_z ≠ 50 → gI T4 m j_z = gI T m j_z) ∧ gI T4 m 36 = d_z + 1 ∧ gI T4 (m + 18) (d_z + 1) = -1 ∧ gI T4 (m + 25) = gI T (m + 25) := by
  intro T4 h_z
  unfold bgM at h_z
  generalize (if d_z + 1 ≤ dp then dp else d_z + 1) = nd' at *
  subst h_z
  refine ⟨((((((Ex.refl _ _).uI _ _ (by omega)).uI _ _ (by omega)).uI _ _ (by omega)).uI _ _ (by omega)).uI _ _ (by omega)).uI _ _ (by omega), fun j_z n0_z n1_z => ?_, ?_, ?_, ?_⟩
  · rw [rI_nk n1_z, rI_ne (by omega), rI_ne (by omega), rI_ne (by omega), rI_ne (by omega), rI_nk n0_z]
  · rw [rI_nk (by decide), rI_ne (by omega), rI_ne (by omega), rI_ne (by omega), rI_ne (by omega), rI_at]
  · rw [rI_ne (by omega), rI_ne (by omega), rI_ne (by omega), rI_at]
  · rw [rI_ne (by omega), rI_ne (by omega), rI_ne (by omega), rI_ne (by omega), rI_ne (by omega), rI_ne (by omega)]
/-- what is left of the machine when a form begins -/
def DwP (M Mp : Mem) (c d_z g_z : Nat) (tk w_z tp dp f_z : Int) (p_z : Nat) (hb_z e_z kk n_z : Int) (X_z Y : Int → Int) : Prop := DrM M Mp c d_z g_z tk w_z tp dp f_z p_z ∧ ((hb_z = 0 ∧ DrN M Mp c g_z) ∨ (hb_z ≠ 0 ∧ n_z < 6 ∧ DrB M Mp c g_z e_z kk n_z X_z Y))
section BB
variable {G : Env0} {Q : Option AV → Mem → Prop} {M T : Mem} {c s m r : Nat}
theorem perf_draw {tk : Int} (hs : ShMa M c) (ho : OpF G M) (hf : ShFr M r) (h_z : Call G J_Ma_draw [a_r c, a_r r] M (fun q_z M2_z => ∃ e_z : Int, q_z = some (a_i e_z) ∧ Q (some (a_i e_z)) M2_z)) : At G 86 33 [a_r c, a_r (G.2 (3 + 13)), a_r r, a_i tk] [a_i ((13 : Nat) : Int), a_r (G.2 1)] M Q := by
  have hh : Call G J_Ma_draw [a_r c, a_r r] M (fun q_z M2_z => At G 86 225 [a_r c, a_r (G.2 (3 + 13)), a_r r, a_i tk] q_z.toList M2_z Q) := Call.weak h_z (fun q_z M2_z hq => by
    obtain ⟨e_z, e1_z, e2_z⟩ := hq
    subst e1_z
    simp (disch := omega) only [B_86_225, inI, inL, isT, kInt, kByt, true_and, and_true, an_t, im_t, im_f, or_true, true_or, true_imp_iff, false_imp_iff, not_true_eq_false, not_false_eq_true, gK_uI, gK_uL, gK_uR, gK_uCI, gK_uCL, gN_uI, gN_uL, gN_uR, gN_uCI, gN_uCL, gR_uI, gR_uL, gR_uCI, gR_uCL, gI_uL, gI_uR, gI_uCL, gL_uI, gL_uR, gL_uCI, gz_uI, gz_uL, gz_uR, gz_uCI, gz_uCL, gs_uI, gs_uL, gs_uR, gs_uCI, gs_uCL, rI_at, rL_at, rR_at, rI_ne, rL_ne, rR_ne, rI_nk, rL_nk, rR_nk, rI_eq, rL_eq, rR_eq, Option.toList_some, Option.toList_none, List.cons_append, List.nil_append, List.append_nil, zc_eq, zc_lt, zc_le, zc_ge, zc_gt]
    exact e2_z)
  have sm_z := ho.1
  have s13 : gI M (G.2 1) 13 = 16 := sm_z.2.2 13 (by decide)
  rw [B_86_33]
  simp (disch := omega) only [sm_z.1, sm_z.2.1, s13, Int.cast_ofNat_Int, B_86_220, hs.1.u, inI, inL, isT, kInt, kByt, true_and, and_true, an_t, im_t, im_f, or_true, true_or, true_imp_iff, false_imp_iff, not_true_eq_false, not_false_eq_true, gK_uI, gK_uL, gK_uR, gK_uCI, gK_uCL, gN_uI, gN_uL, gN_uR, gN_uCI, gN_uCL, gR_uI, gR_uL, gR_uCI, gR_uCL, gI_uL, gI_uR, gI_uCL, gL_uI, gL_uR, gL_uCI, gz_uI, gz_uL, gz_uR, gz_uCI, gz_uCL, gs_uI, gs_uL, gs_uR, gs_uCI, gs_uCL, rI_at, rL_at, rR_at, rI_ne, rL_ne, rR_ne, rI_nk, rL_nk, rR_nk, rI_eq, rL_eq, rR_eq, Option.toList_some, Option.toList_none, List.cons_append, List.nil_append, List.append_nil, zc_eq, zc_lt, zc_le, zc_ge, zc_gt]
  all_goals exact hh
/-- draw in the class, from a_z frame that has taken its token -/
theorem drw_C {E_z tk : Int} {d_z p_z g_z : Nat} {va v_z w_z tp dp f_z e_z kk n_z hb_z b0 b1 b2 b3 : Int} (h0 : Rel G M T c s m E_z) (hd_z : gI M c 11 = (d_z : Int)) (d5_z : d_z < 5) (hw : gI M (c + 22 + 4 * d_z) 6 = w_z) (w0_z : 1 ≤ w_z) (w1_z : w_z ≤ 16) (hv : gL M (c + 22 + 4 * d_z + 1) (w_z - 1) = va) (hva : NV va ∨ (fd va = 0 ∧ 0 ≤ fu va ∧ fu va ≤ 7)) (ht : gI M c 12 = tp) (t0_z : 0 ≤ tp) (t1_z : d_z < 4 → tp + 1 < 35) (t2_z : tp < 35) (hgg : c + 42 + 3 * tp.toNat = g_z) (hmt : ∀ i_z : Int, 0 ≤ i_z → i_z < 6 → NV (gL M (g_z + 1) i_z)) (hdp : gI M c 14 = dp) (hCV : fd va = 0 → CV M c s d_z (fu va) = v_z) (v0_z : 0 ≤ v_z) (v1_z : v_z ≤ 205) (hvf : v_z / 100 = 2 → v_z = 200 + f_z) (f0_z : 0 ≤ f_z) (f1_z : f_z ≤ 5) (hp : gR M (s + 1) (f_z + 1) = p_z) (hee : gI M (c + 4) 5 = e_z) (e0_z : 0 ≤ e_z) (e1_z : e_z < 200) (hkk : gI M (c + 4) 6 = kk) (k0_z : 0 ≤ kk) (k1_z : kk + 4 ≤ 800) (hn : gI M g_z 2 = n_z) (n0_z : 0 ≤ n_z)
    (hhb : gI M (s + 2) f_z = hb_z) (x0_z : gI M (s + 3) (f_z * 4 + 0) = b0) (x1_z : gI M (s + 3) (f_z * 4 + 1) = b1) (x2_z : gI M (s + 3) (f_z * 4 + 2) = b2) (x3 : gI M (s + 3) (f_z * 4 + 3) = b3) (r0 : b0.natAbs ≤ 99) (r1_z : b1.natAbs ≤ 99) (r2 : b2.natAbs ≤ 99) (r3 : b3.natAbs ≤ 99)
    (h2 : fd va ≠ 0 → Q (some (a_i 2)) (uI M (c + 22 + 4 * d_z) 5 (tk + 1))) (h3 : fd va = 0 → ¬ (v_z / 100 = 2 ∧ p_z ≠ 0) → Q (some (a_i 3)) (uI M (c + 22 + 4 * d_z) 5 (tk + 1))) (h4 : fd va = 0 → v_z / 100 = 2 → p_z ≠ 0 → (∃ l : Nat, 1 ≤ l ∧ l ≤ d_z ∧ gI M (c + 22 + 4 * l) 4 = f_z) → Q (some (a_i 4)) (uI M (c + 22 + 4 * d_z) 5 (tk + 1))) (h6 : fd va = 0 → v_z / 100 = 2 → p_z ≠ 0 → ¬ (∃ l : Nat, 1 ≤ l ∧ l ≤ d_z ∧ gI M (c + 22 + 4 * l) 4 = f_z) → (d_z = 4 ∨ (hb_z ≠ 0 ∧ (6 ≤ n_z ∨ ¬ rGood (gL M (g_z + 1)) (pk b0 1) (pk b1 1) (pk b2 1) (pk b3 1)))) → ∀ M2_z, Ex (fun a_z => a_z = c + 20 ∨ a_z = c + 21) (uI M (c + 22 + 4 * d_z) 5 (tk + 1)) M2_z → Q (some (a_i 6)) M2_z)
    (hgo : fd va = 0 → v_z / 100 = 2 → p_z ≠ 0 → ¬ (∃ l : Nat, 1 ≤ l ∧ l ≤ d_z ∧ gI M (c + 22 + 4 * l) 4 = f_z) → d_z < 4 → (hb_z ≠ 0 → n_z < 6 ∧ rGood (gL M (g_z + 1)) (pk b0 1) (pk b1 1) (pk b2 1) (pk b3 1)) → ∀ Mp, DwP M Mp c d_z g_z tk w_z tp dp f_z p_z hb_z e_z kk n_z (fun j_z => dv (gL M (g_z + 1)) (pX (pk b0 1) (pk b2 1) j_z) (pY (pk b1 1) (pk b3 1) j_z) 0) (fun j_z => dv (gL M (g_z + 1)) (pX (pk b0 1) (pk b2 1) j_z) (pY (pk b1 1) (pk b3 1) j_z) 1) → Q (some (a_i 0)) Mp) : Call G J_Ma_draw [a_r c, a_r (c + 22 + 4 * d_z)] (uI M (c + 22 + 4 * d_z) 5 (tk + 1)) Q := by
  have nm : fd va = 0 → 0 ≤ fu va ∧ fu va ≤ 7 := fun c0_z => by
    rcases hva with q_z | q_z
    · have := q_z.2.2.1
      omega
    · exact q_z.2
  have lkq : fd va = 0 → ∀ qq : Option AV → Mem → Prop, qq (some (a_i v_z)) (uI M (c + 22 + 4 * d_z) 5 (tk + 1)) → Call G J_Ma_lookUp [a_r c, a_i (fu va)] (uI M (c + 22 + 4 * d_z) 5 (tk + 1)) qq := fun c0_z qq hq => X_lookFr h0 hd_z (nm c0_z).1 (nm c0_z).2 (by rw [hCV c0_z]; exact hq)
  obtain ⟨r1', -, -, ⟨r4, r5_z, -, -⟩, r8, -⟩ := h0
  have hs1 : ShMa (uI M (c + 22 + 4 * d_z) 5 (tk + 1)) c := r1'
  have hsa1 : ShSa (uI M (c + 22 + 4 * d_z) 5 (tk + 1)) s := r8.1
  have h91 : gR (uI M (c + 22 + 4 * d_z) 5 (tk + 1)) c 9 = s := r5_z
  have ne : ∀ a_z, a_z ≠ c + 22 + 4 * d_z → gI (uI M (c + 22 + 4 * d_z) 5 (tk + 1)) a_z = gI M a_z := fun a_z q_z => rI_ne q_z
  have e4_z : ∀ l : Nat, gI (uI M (c + 22 + 4 * d_z) 5 (tk + 1)) (c + 22 + 4 * l) 4 = gI M (c + 22 + 4 * l) 4 := fun l => by
    by_cases q_z : l = d_z
    · subst q_z
      rw [rI_nk (by decide)]
    · rw [rI_ne (by omega)]
  have gLe : gL (uI M (c + 22 + 4 * d_z) 5 (tk + 1)) = gL M := rfl
  refine X_draw (va := va) (v_z := v_z) (w_z := w_z) (f_z := f_z) (p_z := p_z) hs1 h91 hsa1 d5_z (by rw [rI_nk (by decide)]; exact hw) w0_z w1_z hv hva v0_z v1_z hvf f0_z f1_z hp lkq h2 h3 (fun c0_z q2_z qp => ?_)
  refine X_drawChk (tp := tp) (g_z := g_z) (n_z := n_z) (hb_z := hb_z) hs1 h91 hsa1 (by rw [ne _ (by omega)]; exact ht) t0_z t2_z hgg (by rw [ne _ (by omega)]; exact hd_z) d5_z f0_z f1_z (by rw [ne _ (by omega)]; exact hn) (by rw [ne _ (by omega)]; exact hhb) (fun q_z => ?_) (fun qx' q_z => ?_) (fun qx' q4_z q6_z => ?_)
  · obtain ⟨l, l0, l1, l2⟩ := q_z
    rw [e4_z l] at l2
    exact h4 c0_z q2_z qp ⟨l, l0, l1, l2⟩
  · refine h6 c0_z q2_z qp (fun ⟨l, l0, l1, l2⟩ => qx' ⟨l, l0, l1, by rw [e4_z l]; exact l2⟩) ?_ _ (Ex.refl _ _)
    rcases q_z with q_z | ⟨q_z, y_z⟩
    · exact Or.inl q_z
    · exact Or.inr ⟨q_z, Or.inl y_z⟩
  · have qx : ¬ (∃ l : Nat, 1 ≤ l ∧ l ≤ d_z ∧ gI M (c + 22 + 4 * l) 4 = f_z) := fun ⟨l, l0, l1, l2⟩ => qx' ⟨l, l0, l1, by rw [e4_z l]; exact l2⟩
    clear qx'
    have tl : ∀ M1_z, Ex (fun a_z => a_z = c + 21) (uI M (c + 22 + 4 * d_z) 5 (tk + 1)) M1_z → (hb_z = 0 → ∀ M3_z, PsF (uI M1_z (c + 22 + 4 * d_z) 6 (w_z - 1)) M3_z c g_z tp → Q (some (a_i 0)) (frB M3_z c (c + 22 + 4 * (d_z + 1)) d_z dp f_z p_z)) → (hb_z ≠ 0 → ∀ M3_z M6_z, PsF (uI M1_z (c + 22 + 4 * d_z) 6 (w_z - 1)) M3_z c g_z tp → PtF M3_z M6_z c (g_z + 3) e_z kk n_z → Q (some (a_i 0)) (frB M6_z c (c + 22 + 4 * (d_z + 1)) d_z dp f_z p_z)) → At G 118 175 [a_r c, a_r (c + 22 + 4 * d_z), a_l va, a_u, a_i v_z, a_i f_z, a_i hb_z] [] M1_z Q := fun M1_z hE y0 y1 => by
      obtain ⟨a1_z, a2, a3, a4, a5, a6⟩ := id hE
      have mr : ∀ a_z, a_z ≠ c + 21 → a_z ≠ c + 22 + 4 * d_z → gI M1_z a_z = gI M a_z := fun a_z q_z q' => by rw [(a6 a_z q_z).1, ne a_z q']
      have hsM : ShMa M1_z c := hE.ma hs1
      have hsaM : ShSa M1_z s := by
        unfold ShSa ShSax
        rw [a1_z, a2, a3]
        exact hsa1
      exact X_drawTail hsM (by rw [a3]; exact h91) hsaM r4 (by rw [(a6 _ (by omega)).1, rI_nk (by decide)]; exact hw) w0_z w1_z (by rw [mr _ (by omega) (by omega)]; exact ht) t0_z (t1_z q4_z) hgg (by rw [mr _ (by omega) (by omega)]; exact hd_z) q4_z (by rw [mr _ (by omega) (by omega)]; exact hdp) f0_z f1_z (by rw [a3]; exact hp) (by rw [mr _ (by omega) (by omega)]; exact hee) e0_z e1_z (by rw [mr _ (by omega) (by omega)]; exact hkk) k0_z k1_z (by rw [mr _ (by omega) (by omega)]; exact hn) n0_z q6_z y0 y1
    by_cases cb : hb_z = 0
    · have tt := tl _ (Ex.refl _ _) (fun _ M3_z hF => by
        obtain ⟨z1, z2, z3, z4, z5⟩ := DrM.of (tk := tk) (w_z := w_z) (M6_z := M3_z) q4_z (by omega) (Ex.refl _ _) rfl hF ⟨rfl, rfl, rfl, rfl, rfl, rfl⟩ (fun _ _ _ _ => rfl) (fun _ _ => rfl) rfl
        exact hgo c0_z q2_z qp qx q4_z (fun q_z => absurd cb q_z) _ ⟨z1, Or.inl ⟨cb, DrN.of z2 z3 z4⟩⟩) (fun q_z => absurd cb q_z)
      subst cb
      rw [B_118_120]
      exact ⟨fun _ => tt, fun q_z => absurd rfl q_z⟩
    · refine X_drawBox (tp := tp) (g_z := g_z) (n_z := n_z) (b0 := b0) (b1 := b1) (b2 := b2) (b3 := b3) hs1 h91 hsa1 (by rw [ne _ (by omega)]; exact ht) t0_z t2_z hgg (by rw [gLe]; exact hmt) f0_z f1_z cb (by rw [ne _ (by omega)]; exact x0_z) (by rw [ne _ (by omega)]; exact x1_z) (by rw [ne _ (by omega)]; exact x2_z) (by rw [ne _ (by omega)]; exact x3) r0 r1_z r2 r3 (fun q_z M1_z hE => ?_) (fun q_z M1_z hE hR => ?_)
      · rw [gLe] at q_z
        exact h6 c0_z q2_z qp qx (Or.inr ⟨cb, Or.inr q_z⟩) M1_z (hE.mono (fun a_z ha_z => Or.inr ha_z))
      · rw [gLe] at hR q_z
        refine tl M1_z hE (fun y_z => absurd y_z cb) (fun _ M3_z M6_z hF hP => ?_)
        obtain ⟨k6_z, r6, -, -, -, -, -, -, g6, -⟩ := id hP
        obtain ⟨z1, z2, z3, z4, z5⟩ := DrM.of (tk := tk) (w_z := w_z) (M6_z := M6_z) q4_z (by omega) hE rfl hF k6_z (fun a_z n0_z n1_z n2_z => r6 a_z n0_z n1_z (by omega)) g6 rfl
        refine hgo c0_z q2_z qp qx q4_z (fun _ => ⟨q6_z cb, q_z⟩) _ ⟨z1, Or.inr ⟨cb, q6_z cb, DrB.of hP z2 z3 z4 z5 (fun j_z j0 j1 => ?_) (fun j_z j0 j1 => ?_)⟩⟩
        · have y_z := hR j_z 0 j0 j1 (by decide) (by decide)
          rw [Int.add_zero] at y_z
          exact y_z
        · exact hR j_z 1 j0 j1 (by decide) (by decide)
end BB
