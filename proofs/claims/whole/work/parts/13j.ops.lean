/-! THE PURE PART, part 13: operators that err; counting. Own work. -/
theorem Sy.outM {m : Nat} {T T' : Mem} (h_z : Sy T T' m) : OutM m T T' := by
  obtain ⟨a1_z, a2, a3, a4, a5, a6, a7⟩ := h_z
  refine ⟨a1_z, a2, a3, a4, a5, fun r_z q_z => ⟨?_, a7 r_z (by omega)⟩⟩
  funext k
  exact a6 r_z k (fun e_z => by omega) (by omega) (by omega) (by omega)
theorem OutM.uI {m r_z : Nat} {T T' : Mem} (h_z : OutM m T T') (k_z v_z : Int) (hr : m ≤ r_z ∧ r_z < m + 29 ∧ ¬ (m + 1 ≤ r_z ∧ r_z ≤ m + 3)) : OutM m T (uI T' r_z k_z v_z) := Ex.uI h_z k_z v_z hr
theorem OutC.uI {c r_z : Nat} {M M' : Mem} (h_z : OutC c M M') (k_z v_z : Int) (hr : c ≤ r_z ∧ r_z < c + 147) : OutC c M (uI M' r_z k_z v_z) := by
  obtain ⟨b1, b2, b3, b4, b5⟩ := h_z
  refine ⟨b1, b2, b3, b4, fun a_z q_z => ⟨?_, (b5 a_z q_z).2⟩⟩
  rw [rI_ne (by omega)]
  exact (b5 a_z q_z).1
/-- one more is counted -/
theorem TrR.count {M T M' T' : Mem} {c m : Nat} {st_z tk fo : Int} (h_z : TrR M T c m) (h2 : gI M c 13 < 200) (e0_z : gI M' c 13 = gI M c 13 + 1) (e1_z : gI M' (c + 17) = upf (gI M (c + 17)) (gI M c 13) st_z) (e2_z : gI M' (c + 18) = upf (gI M (c + 18)) (gI M c 13) tk) (e3_z : gI M' (c + 19) = upf (gI M (c + 19)) (gI M c 13) fo) (e4_z : gI T' m 49 = gI T m 49 + 1) (e5_z : gI T' (m + 25) = upf (upf (upf (gI T (m + 25)) (3 * gI T m 49) st_z) (3 * gI T m 49 + 1) tk) (3 * gI T m 49 + 2) fo) : TrR M' T' c m := by
  obtain ⟨h1, h3, h4, h5⟩ := h_z
  unfold TrR
  rw [e0_z, e1_z, e2_z, e3_z, e4_z, e5_z, ← h1]
  refine ⟨rfl, by omega, by omega, fun i_z i0_z i1_z => ?_⟩
  by_cases ci : i_z = gI M c 13
  · subst ci
    rw [upf_at, upf_at, upf_at, upf_ne _ _ (by omega), upf_ne _ _ (by omega), upf_at, upf_ne _ _ (by omega), upf_at, upf_at]
    exact ⟨rfl, rfl, rfl⟩
  · rw [upf_ne _ _ ci, upf_ne _ _ ci, upf_ne _ _ ci, upf_ne _ _ (by omega), upf_ne _ _ (by omega), upf_ne _ _ (by omega), upf_ne _ _ (by omega), upf_ne _ _ (by omega), upf_ne _ _ (by omega), upf_ne _ _ (by omega), upf_ne _ _ (by omega), upf_ne _ _ (by omega)]
    exact h5 i_z i0_z (by omega)
section ZA
variable {G : Env0} {Q : Option AV → Mem → Prop} {M T : Mem} {c s m : Nat}
theorem op_err {E_z i_z x_z n_z tk e_z : Int} {d_z p_z k_z : Nat} (h_z : Rel G M T c s m E_z) (hd_z : gI M c 11 = (d_z : Int)) (hx : gI M (c + 22 + 4 * d_z) 4 = x_z - 1) (htk : gI M (c + 22 + 4 * d_z) 5 = tk) (hp : gR M (c + 22 + 4 * d_z) 3 = p_z) (hn : gI M p_z 3 = n_z) (hlt : tk < n_z) (hk : k_z < 23) (hk15 : k_z ≠ 15) (hop : gR M (p_z + 1) tk = G.2 (3 + k_z)) (i0_z : 0 ≤ i_z) (i1_z : i_z + 1 < 1000000) (he : 1 ≤ e_z ∧ e_z ≤ 6) (hEr : Err G c s m M E_z Q)
    (hC : ∀ qq : Option AV → Mem → Prop, (∀ M2_z, Ex (fun a_z => a_z = c + 20 ∨ a_z = c + 21) (uI M (c + 22 + 4 * d_z) 5 (tk + 1)) M2_z → qq (some (a_i e_z)) M2_z) → Call G J_Ma_perform [a_r c, a_r (G.2 (3 + k_z)), a_r (c + 22 + 4 * d_z), a_i tk] (uI M (c + 22 + 4 * d_z) 5 (tk + 1)) qq)
    (hM_z : ∀ T', Rel G M T' c s m E_z → ∀ qq : Option AV → Mem → Prop, (∀ T1, Sy T' T1 m → qq (some (a_i e_z)) T1) → Call G J_M_wrong [a_r m, a_i (k_z : Int)] T' qq) : HC G c s i_z M Q := by
  have h0 := h_z
  obtain ⟨ht0, -⟩ := h_z.topM hd_z hx htk hp hn
  obtain ⟨r1_z, r2, r3, ⟨r4, r5_z, r6, r7⟩, r8, r9, r10, r11, r12, r13, ⟨r14, r15, r16⟩, r17⟩ := h_z
  have hd5 := r10.1.2.2
  refine HC_op r1_z r3 r6 r4 hd_z ht0 hlt hk hk15 hop i0_z i1_z (hC _ (fun M2_z hE => ?_))
  have hs1 : ShMa (uI M (c + 22 + 4 * d_z) 5 (tk + 1)) c := r1_z
  have row_z : ∀ r_z, r_z ≠ c + 20 → r_z ≠ c + 21 → r_z ≠ c + 22 + 4 * d_z → gI M2_z r_z = gI M r_z := fun r_z n1_z n2_z n3_z => by
    rw [(hE.2.2.2.2.2 r_z (by omega)).1, rI_ne n3_z]
  have rowL : ∀ r_z, r_z ≠ c + 20 → r_z ≠ c + 21 → gL M2_z r_z = gL M r_z := fun r_z n1_z n2_z => (hE.2.2.2.2.2 r_z (by omega)).2
  have rF : ∀ k_z, k_z ≠ 5 → gI M2_z (c + 22 + 4 * d_z) k_z = gI M (c + 22 + 4 * d_z) k_z := fun k_z n1_z => by
    rw [(hE.2.2.2.2.2 _ (by omega)).1, rI_nk n1_z]
  refine ⟨e_z, rfl, hE.ma hs1, by rw [rF 4 (by decide)]; exact hx, fun q_z => by omega, fun _ => ?_⟩
  have o1 : OutC c M (uI M (c + 22 + 4 * d_z) 5 (tk + 1)) := (OutC.refl c M).uI _ _ (by omega)
  have o2 : OutC c M M2_z := o1.trans (hE.outC (fun r_z hr => by omega))
  refine hEr (errM M2_z c e_z (x_z - 1) tk) e_z (((o2.uI _ _ (by omega)).uI _ _ (by omega)).uI _ _ (by omega)) (fun T' h' R_z hR => ?_)
  obtain ⟨a1_z, a2, -, -⟩ := h'.code hd_z hx htk hp hn hlt hk hop
  refine HM_op h'.2.1 a1_z hlt a2 (by omega) (by omega) (by omega) (hM_z T' h' _ (fun T1 hy => ?_))
  refine ⟨e_z, rfl, hy, fun _ => ?_, fun q_z => by omega⟩
  obtain ⟨u1_z, u2_z, u3, u4_z, u5, u6, u7, u8, u9, u10, u11, u12, u13, u14, u15, u16, u17⟩ := a1_z
  refine hR _ ((((hy.outM.uI _ _ (by omega)).uI _ _ (by omega)).uI _ _ (by omega)).uI _ _ (by omega)) ?_
  unfold errM errT
  refine RsR.err (e_z := e_z) h'.rs (by omega) (fun r_z h1 h2 => ?_) (fun r_z h1 h2 => ?_) ?_ ?_ ?_ ?_ ?_ ?_ (fun r_z h1 h2 => ?_) (fun k_z h1 h2 h3 h4 h5 h6 => ?_) ?_ ⟨?_, ?_⟩
  · simp (disch := omega) only [gK_uI, gK_uL, gK_uR, gK_uCI, gK_uCL, gN_uI, gN_uL, gN_uR, gN_uCI, gN_uCL, gR_uI, gR_uL, gR_uCI, gR_uCL, gI_uL, gI_uR, gI_uCL, gL_uI, gL_uR, gL_uCI, gz_uI, gz_uL, gz_uR, gz_uCI, gz_uCL, gs_uI, gs_uL, gs_uR, gs_uCI, gs_uCL, rI_at, rL_at, rR_at, rI_ne, rL_ne, rR_ne, rI_nk, rL_nk, rR_nk, rI_eq, rL_eq, rR_eq]
    exact row_z r_z (by omega) (by omega) (by omega)
  · simp (disch := omega) only [gK_uI, gK_uL, gK_uR, gK_uCI, gK_uCL, gN_uI, gN_uL, gN_uR, gN_uCI, gN_uCL, gR_uI, gR_uL, gR_uCI, gR_uCL, gI_uL, gI_uR, gI_uCL, gL_uI, gL_uR, gL_uCI, gz_uI, gz_uL, gz_uR, gz_uCI, gz_uCL, gs_uI, gs_uL, gs_uR, gs_uCI, gs_uCL, rI_at, rL_at, rR_at, rI_ne, rL_ne, rR_ne, rI_nk, rL_nk, rR_nk, rI_eq, rL_eq, rR_eq]
    exact rowL r_z (by omega) (by omega)
  · simp (disch := omega) only [gK_uI, gK_uL, gK_uR, gK_uCI, gK_uCL, gN_uI, gN_uL, gN_uR, gN_uCI, gN_uCL, gR_uI, gR_uL, gR_uCI, gR_uCL, gI_uL, gI_uR, gI_uCL, gL_uI, gL_uR, gL_uCI, gz_uI, gz_uL, gz_uR, gz_uCI, gz_uCL, gs_uI, gs_uL, gs_uR, gs_uCI, gs_uCL, rI_at, rL_at, rR_at, rI_ne, rL_ne, rR_ne, rI_nk, rL_nk, rR_nk, rI_eq, rL_eq, rR_eq]
    by_cases c0_z : d_z = 0
    · subst c0_z
      exact rF 6 (by decide)
    · rw [row_z _ (by omega) (by omega) (by omega)]
  · simp (disch := omega) only [gK_uI, gK_uL, gK_uR, gK_uCI, gK_uCL, gN_uI, gN_uL, gN_uR, gN_uCI, gN_uCL, gR_uI, gR_uL, gR_uCI, gR_uCL, gI_uL, gI_uR, gI_uCL, gL_uI, gL_uR, gL_uCI, gz_uI, gz_uL, gz_uR, gz_uCI, gz_uCL, gs_uI, gs_uL, gs_uR, gs_uCI, gs_uCL, rI_at, rL_at, rR_at, rI_ne, rL_ne, rR_ne, rI_nk, rL_nk, rR_nk, rI_eq, rL_eq, rR_eq]
    exact rowL _ (by omega) (by omega)
  · simp (disch := omega) only [gK_uI, gK_uL, gK_uR, gK_uCI, gK_uCL, gN_uI, gN_uL, gN_uR, gN_uCI, gN_uCL, gR_uI, gR_uL, gR_uCI, gR_uCL, gI_uL, gI_uR, gI_uCL, gL_uI, gL_uR, gL_uCI, gz_uI, gz_uL, gz_uR, gz_uCI, gz_uCL, gs_uI, gs_uL, gs_uR, gs_uCI, gs_uCL, rI_at, rL_at, rR_at, rI_ne, rL_ne, rR_ne, rI_nk, rL_nk, rR_nk, rI_eq, rL_eq, rR_eq]
    rw [row_z _ (by omega) (by omega) (by omega)]
  · simp (disch := omega) only [gK_uI, gK_uL, gK_uR, gK_uCI, gK_uCL, gN_uI, gN_uL, gN_uR, gN_uCI, gN_uCL, gR_uI, gR_uL, gR_uCI, gR_uCL, gI_uL, gI_uR, gI_uCL, gL_uI, gL_uR, gL_uCI, gz_uI, gz_uL, gz_uR, gz_uCI, gz_uCL, gs_uI, gs_uL, gs_uR, gs_uCI, gs_uCL, rI_at, rL_at, rR_at, rI_ne, rL_ne, rR_ne, rI_nk, rL_nk, rR_nk, rI_eq, rL_eq, rR_eq]
    rw [row_z _ (by omega) (by omega) (by omega)]
  · simp (disch := omega) only [gK_uI, gK_uL, gK_uR, gK_uCI, gK_uCL, gN_uI, gN_uL, gN_uR, gN_uCI, gN_uCL, gR_uI, gR_uL, gR_uCI, gR_uCL, gI_uL, gI_uR, gI_uCL, gL_uI, gL_uR, gL_uCI, gz_uI, gz_uL, gz_uR, gz_uCI, gz_uCL, gs_uI, gs_uL, gs_uR, gs_uCI, gs_uCL, rI_at, rL_at, rR_at, rI_ne, rL_ne, rR_ne, rI_nk, rL_nk, rR_nk, rI_eq, rL_eq, rR_eq]
    rw [row_z _ (by omega) (by omega) (by omega)]
  · simp (disch := omega) only [gK_uI, gK_uL, gK_uR, gK_uCI, gK_uCL, gN_uI, gN_uL, gN_uR, gN_uCI, gN_uCL, gR_uI, gR_uL, gR_uCI, gR_uCL, gI_uL, gI_uR, gI_uCL, gL_uI, gL_uR, gL_uCI, gz_uI, gz_uL, gz_uR, gz_uCI, gz_uCL, gs_uI, gs_uL, gs_uR, gs_uCI, gs_uCL, rI_at, rL_at, rR_at, rI_ne, rL_ne, rR_ne, rI_nk, rL_nk, rR_nk, rI_eq, rL_eq, rR_eq]
  · by_cases cr : r_z = m + 18
    · subst cr
      have e18_z : gI T1 (m + 18) = gI T' (m + 18) := hy.row (by omega) (by omega) (by omega) (by omega)
      rw [rI_row, rI_ne (by omega), rI_ne (by omega), rI_ne (by omega), e18_z, ← u10, upf_self]
    · simp (disch := omega) only [gK_uI, gK_uL, gK_uR, gK_uCI, gK_uCL, gN_uI, gN_uL, gN_uR, gN_uCI, gN_uCL, gR_uI, gR_uL, gR_uCI, gR_uCL, gI_uL, gI_uR, gI_uCL, gL_uI, gL_uR, gL_uCI, gz_uI, gz_uL, gz_uR, gz_uCI, gz_uCL, gs_uI, gs_uL, gs_uR, gs_uCI, gs_uCL, rI_at, rL_at, rR_at, rI_ne, rL_ne, rR_ne, rI_nk, rL_nk, rR_nk, rI_eq, rL_eq, rR_eq]
      exact hy.row (by omega) (by omega) (by omega) (by omega)
  · simp (disch := omega) only [gK_uI, gK_uL, gK_uR, gK_uCI, gK_uCL, gN_uI, gN_uL, gN_uR, gN_uCI, gN_uCL, gR_uI, gR_uL, gR_uCI, gR_uCL, gI_uL, gI_uR, gI_uCL, gL_uI, gL_uR, gL_uCI, gz_uI, gz_uL, gz_uR, gz_uCI, gz_uCL, gs_uI, gs_uL, gs_uR, gs_uCI, gs_uCL, rI_at, rL_at, rR_at, rI_ne, rL_ne, rR_ne, rI_nk, rL_nk, rR_nk, rI_eq, rL_eq, rR_eq]
    exact hy.fld (by omega)
  · simp (disch := omega) only [gK_uI, gK_uL, gK_uR, gK_uCI, gK_uCL, gN_uI, gN_uL, gN_uR, gN_uCI, gN_uCL, gR_uI, gR_uL, gR_uCI, gR_uCL, gI_uL, gI_uR, gI_uCL, gL_uI, gL_uR, gL_uCI, gz_uI, gz_uL, gz_uR, gz_uCI, gz_uCL, gs_uI, gs_uL, gs_uR, gs_uCI, gs_uCL, rI_at, rL_at, rR_at, rI_ne, rL_ne, rR_ne, rI_nk, rL_nk, rR_nk, rI_eq, rL_eq, rR_eq]
  · simp (disch := omega) only [gK_uI, gK_uL, gK_uR, gK_uCI, gK_uCL, gN_uI, gN_uL, gN_uR, gN_uCI, gN_uCL, gR_uI, gR_uL, gR_uCI, gR_uCL, gI_uL, gI_uR, gI_uCL, gL_uI, gL_uR, gL_uCI, gz_uI, gz_uL, gz_uR, gz_uCI, gz_uCL, gs_uI, gs_uL, gs_uR, gs_uCI, gs_uCL, rI_at, rL_at, rR_at, rI_ne, rL_ne, rR_ne, rI_nk, rL_nk, rR_nk, rI_eq, rL_eq, rR_eq]
  · simp (disch := omega) only [gK_uI, gK_uL, gK_uR, gK_uCI, gK_uCL, gN_uI, gN_uL, gN_uR, gN_uCI, gN_uCL, gR_uI, gR_uL, gR_uCI, gR_uCL, gI_uL, gI_uR, gI_uCL, gL_uI, gL_uR, gL_uCI, gz_uI, gz_uL, gz_uR, gz_uCI, gz_uCL, gs_uI, gs_uL, gs_uR, gs_uCI, gs_uCL, rI_at, rL_at, rR_at, rI_ne, rL_ne, rR_ne, rI_nk, rL_nk, rR_nk, rI_eq, rL_eq, rR_eq]
end ZA
