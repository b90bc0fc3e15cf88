/-! THE PURE PART, part 13: the frame around an operator that runs. Own work. -/
/-- what counting leaves, in one word -/
def Cnt (Mp M2_z : Mem) (c : Nat) : Prop := gL M2_z = gL Mp ∧ gR M2_z = gR Mp ∧ (∀ a_z, a_z ≠ c → a_z ≠ c + 17 → a_z ≠ c + 18 → a_z ≠ c + 19 → gI M2_z a_z = gI Mp a_z) ∧ (∀ j_z, j_z ≠ 13 → j_z ≠ 15 → gI M2_z c j_z = gI Mp c j_z) ∧ gI M2_z c 13 = gI Mp c 13 + 1
/-- what an operator leaves of the class's machine: the frame on top (level d_z) has w_z operands left -/
def LeC (M Mp : Mem) (c d_z : Nat) (tk w_z : Int) : Prop :=
  ShMa Mp c ∧ gR Mp = gR M ∧ OutC c M Mp ∧ (∀ a_z, c + 22 ≤ a_z → a_z < c + 42 → a_z ≠ c + 22 + 4 * d_z → gI Mp a_z = gI M a_z ∧ gL Mp a_z = gL M a_z) ∧ (∀ a_z, c + 17 ≤ a_z → a_z < c + 20 → gI Mp a_z = gI M a_z) ∧ (∀ j_z, j_z = 11 ∨ j_z = 13 ∨ j_z = 14 → gI Mp c j_z = gI M c j_z) ∧
  gI Mp (c + 22 + 4 * d_z) 4 = gI M (c + 22 + 4 * d_z) 4 ∧ gI Mp (c + 22 + 4 * d_z) 5 = tk + 1 ∧ gI Mp (c + 22 + 4 * d_z) 6 = w_z ∧ gI Mp (c + 22 + 4 * d_z) 7 = gI M (c + 22 + 4 * d_z) 7
/-- the model once it has traced -/
def Tr3 (T' T1 T3 : Mem) (m : Nat) : Prop :=
  ShM T3 m ∧ (∀ a_z, a_z ≠ m → a_z ≠ m + 25 → a_z ≠ m + 26 → a_z ≠ m + 27 → a_z ≠ m + 28 → gI T3 a_z = gI T' a_z) ∧ (∀ j_z, j_z ≠ 49 → j_z ≠ 16 → j_z ≠ 20 → j_z ≠ 21 → gI T3 m j_z = gI T' m j_z) ∧ (∀ a_z, a_z ≠ m → a_z ≠ m + 25 → gI T3 a_z = gI T1 a_z) ∧ ∀ j_z, j_z ≠ 49 → gI T3 m j_z = gI T1 m j_z
/-- what an operator leaves of the model -/
def LeM (T' T3 T4 : Mem) (m d_z : Nat) (w_z : Int) : Prop :=
  OutM m T3 T4 ∧ (∀ a_z, a_z = m + 1 ∨ a_z = m + 17 ∨ a_z = m + 18 ∨ (m + 20 ≤ a_z ∧ a_z ≤ m + 24) → gI T4 a_z = gI T' a_z) ∧ gI T4 (m + 25) = gI T3 (m + 25) ∧ gI T4 (m + 19) = upf (gI T' (m + 19)) d_z w_z ∧ (∀ j_z, j_z = 36 ∨ j_z = 46 ∨ j_z = 50 → gI T4 m j_z = gI T' m j_z) ∧ gI T4 m 49 = gI T3 m 49
section JB
variable {G : Env0} {Q : Option AV → Mem → Prop} {M T : Mem} {c s m : Nat}
theorem Tr3.of {T' T1 : Mem} {st_z tk : Int} {d_z : Nat} (hy : Sy T' T1 m) (hs : ShM T' m) : Tr3 T' T1 (trcT T1 m st_z tk d_z) m := by
  have hm1 := hy.sh hs
  refine ⟨hm1, fun a_z n0_z n1_z n2_z n3_z n4_z => ?_, fun j_z n0_z n1_z n2_z n3_z => ?_, fun a_z n0_z n1_z => trc_r n0_z n1_z, fun j_z n0_z => trc_f _ n0_z⟩
  · rw [trc_r n0_z n1_z]
    exact hy.row n0_z n2_z n3_z n4_z
  · rw [trc_f _ n0_z]
    exact hy.fld ⟨n1_z, n2_z, n3_z⟩
theorem Cnt.of {Mp : Mem} {st_z tk : Int} {d_z : Nat} : Cnt Mp (cntM Mp c st_z tk d_z) c := ⟨rfl, rfl, fun _ n0_z n1_z n2_z n3_z => cnt_row n0_z n1_z n2_z n3_z, fun _ n0_z n1_z => cnt_fld n0_z n1_z, cnt_13⟩
theorem op_run {E_z i_z x_z n_z tk w_z : Int} {d_z p_z k_z : Nat} {P_z : Mem → Prop} {PT_z : Mem → Mem → Prop} (h_z : Rel G M T c s m E_z) (hd_z : gI M c 11 = (d_z : Int)) (hx : gI M (c + 22 + 4 * d_z) 4 = x_z - 1) (htk : gI M (c + 22 + 4 * d_z) 5 = tk) (hp : gR M (c + 22 + 4 * d_z) 3 = p_z) (hn : gI M p_z 3 = n_z) (hlt : tk < n_z) (hk : k_z < 23) (hk15 : k_z ≠ 15) (hop : gR M (p_z + 1) tk = G.2 (3 + k_z)) (i0_z : 0 ≤ i_z) (i1_z : i_z + 1 < 1000000) (hb_z : gI M c 13 < gI M s 6) (hN_z : Nxt G c s m M E_z i_z Q) (w0_z : 0 ≤ w_z) (w1_z : w_z ≤ gI M (c + 22 + 4 * d_z) 6)
    (hC : ∀ qq : Option AV → Mem → Prop, (∀ Mp, P_z Mp → qq (some (a_i 0)) Mp) → Call G J_Ma_perform [a_r c, a_r (G.2 (3 + k_z)), a_r (c + 22 + 4 * d_z), a_i tk] (uI M (c + 22 + 4 * d_z) 5 (tk + 1)) qq)
    (hP : ∀ Mp, P_z Mp → LeC M Mp c d_z tk w_z)
    (hM_z : ∀ T', Rel G M T' c s m E_z → ∀ qq : Option AV → Mem → Prop, (∀ T1, Sy T' T1 m → PT_z T' T1 → qq (some (a_i 0)) T1) → Call G J_M_wrong [a_r m, a_i (k_z : Int)] T' qq)
    (hD : ∀ Mp, P_z Mp → ∀ T', Rel G M T' c s m E_z → ∀ T1, Sy T' T1 m → PT_z T' T1 → ∀ T3, Tr3 T' T1 T3 m → ∀ st_z : Stk × Bool, scan (cdm T' m x_z) tk.toNat = st_z → legal k_z st_z → (st_z.2 = true ↔ 0 < gI T' m 25) → ∀ qq : Option AV → Mem → Prop,
      (∀ T4 : Mem, LeM T' T3 T4 m d_z w_z → (∀ v_z f_z, LpO st_z.1 v_z f_z → LpO (stepF k_z tk.toNat st_z).1 v_z f_z) → ((stepF k_z tk.toNat st_z).2 = true ↔ 0 < gI T4 m 25) → (∀ M2_z, Cnt Mp M2_z c → gI M2_z c 12 = gI M c 12 - nsv st_z.1 + nsv (stepF k_z tk.toNat st_z).1 ∧ GsR M2_z T4 c m ∧ PaR M2_z T4 c m ∧ ItR M2_z T4 c m) → qq none T4) → Call G J_M_does [a_r m, a_i (k_z : Int)] T3 qq) : HC G c s i_z M Q := by
  have h0 := h_z
  obtain ⟨r1_z, r2, r3, ⟨r4, r5_z, r6, r7⟩, r8, r9, r10, r11, r12, r13, ⟨r14, r15, r16⟩, r17⟩ := h_z
  have hbud := r8.2.2.2.2.2.2
  obtain ⟨g1, g2, g3_z, v0_z, v1_z, g6⟩ := h0.opn hd_z
  refine op_ok (E2 := E_z - 2501) (P_z := P_z) (PT_z := PT_z) h0 hd_z hx htk hp hn hlt hk hk15 hop i0_z i1_z hb_z hN_z hC (fun Mp hMp => ?_) (by omega) hM_z (fun Mp hMp T' h' T1 hy hPT qq hqq => ?_)
  · obtain ⟨c1_z, c2_z, c3_z, c4_z, c5_z, c6_z, c7_z, c8_z, c9_z, c10_z⟩ := hP Mp hMp
    exact ⟨c1_z, by rw [c7_z]; exact hx, c6_z 13 (by omega), c3_z⟩
  · obtain ⟨c1_z, c2_z, c3_z, c4_z, c5_z, c6_z, c7_z, c8_z, c9_z, c10_z⟩ := hP Mp hMp
    obtain ⟨k1_z, k2_z, k3_z, -, -, k6_z⟩ := h'.opn hd_z
    obtain ⟨b1, b2, b3, b4⟩ := h'.code hd_z hx htk hp hn hlt hk hop
    obtain ⟨u1_z, u2_z, u3, u4_z, u5, u6, u7, u8, u9, u10, u11, u12, u13, u14, u15, u16, u17⟩ := b1
    have h'0 := h'
    have hsc : sc M T' m (c + 22 + 4 * d_z) d_z = scan (cdm T' m x_z) tk.toNat := by unfold sc; rw [u3, u9]
    rw [hsc] at b3
    obtain ⟨q1_z, q2_z, q3_z, -, q8_z, q9_z, q10_z, q11_z, q12_z, q13_z, ⟨q14_z, q15_z, q16_z⟩, q17_z⟩ := h'
    have kP_z := (q10_z.get hd_z).2.2.2
    rw [hsc] at kP_z
    have sn : scan (cdm T' m x_z) (tk.toNat + 1) = stepF k_z tk.toNat (scan (cdm T' m x_z) tk.toNat) := by
      show stepF (cdm T' m x_z tk.toNat) tk.toNat (scan (cdm T' m x_z) tk.toNat) = _
      rw [b2]
    have t3_z : Tr3 T' T1 (trcT T1 m (x_z - 1) tk d_z) m := Tr3.of hy q2_z
    refine hD Mp hMp T' h'0 T1 hy hPT _ t3_z _ rfl b3 kP_z qq (fun T4 o4_z hL hpa hR => ?_)
    rw [← sn] at hL hpa
    have hR2 := hR (cntM Mp c (x_z - 1) tk d_z) Cnt.of
    rw [← sn] at hR2
    obtain ⟨z12, zg, zp, zi⟩ := hR2
    obtain ⟨o1, o2, o3_z, o5_z, o6, o7⟩ := o4_z
    have ne : ∀ a_z, a_z ≠ m + 18 → gI (uI T4 (m + 18) d_z (tk + 1)) a_z = gI T4 a_z := fun a_z n0_z => rI_ne n0_z
    have hm4 : ShM T4 m := Ex.sh o1 t3_z.1
    have hm5 : ShM (uI T4 (m + 18) d_z (tk + 1)) m := hm4
    refine hqq T4 d_z tk o1 (by rw [o6 46 (by omega)]; exact q16_z) (by rw [o6 36 (by omega)]; exact k2_z) (by omega) (by omega) (by rw [o2 (m + 18) (by omega)]; exact u10) (by omega) (by omega) ?_
    have crow : ∀ a_z, c + 1 ≤ a_z → (a_z < c + 17 ∨ c + 20 ≤ a_z) → gI (cntM Mp c (x_z - 1) tk d_z) a_z = gI Mp a_z := fun a_z n0_z n1_z => cnt_row (by omega) (by omega) (by omega) (by omega)
    have t18 : gI (uI T4 (m + 18) d_z (tk + 1)) (m + 18) = upf (gI T' (m + 18)) d_z (tk + 1) := by
      rw [rI_row, o2 (m + 18) (by omega)]
    have tr' : TrR (cntM Mp c (x_z - 1) tk d_z) (uI T4 (m + 18) d_z (tk + 1)) c m := TrR.step q9_z (by omega) (c6_z 13 (by omega)) (c5_z _ (by omega) (by omega)) (c5_z _ (by omega) (by omega)) (c5_z _ (by omega) (by omega)) hy (by rw [rI_ne (by omega)]; exact o7) (by rw [rI_ne (by omega)]; exact o3_z)
    have oo : OutC c M (cntM Mp c (x_z - 1) tk d_z) := ((((c3_z.uI _ _ (by omega)).uI _ _ (by omega)).uI _ _ (by omega)).uI _ _ (by omega)).uI _ _ (by omega)
    have hs2 : ShMa (cntM Mp c (x_z - 1) tk d_z) c := c1_z
    have eR2 : gR (cntM Mp c (x_z - 1) tk d_z) = gR M := c2_z
    have eL2 : gL (cntM Mp c (x_z - 1) tk d_z) = gL Mp := rfl
    have e11_z : gI (cntM Mp c (x_z - 1) tk d_z) c 11 = gI M c 11 := by rw [cnt_fld (by decide) (by decide)]; exact c6_z 11 (by omega)
    have e13_z : gI (cntM Mp c (x_z - 1) tk d_z) c 13 = gI M c 13 + 1 := by rw [cnt_13, c6_z 13 (by omega)]
    have e14_z : gI (cntM Mp c (x_z - 1) tk d_z) c 14 = gI M c 14 := by rw [cnt_fld (by decide) (by decide)]; exact c6_z 14 (by omega)
    have e15_z : gI (cntM Mp c (x_z - 1) tk d_z) c 15 = 0 := cnt_15
    generalize cntM Mp c (x_z - 1) tk d_z = M2_z at *
    have po : Pool M2_z T4 M2_z (uI T4 (m + 18) d_z (tk + 1)) c m := Pool.same rfl rfl rfl rfl rfl rfl rfl (by rw [ne _ (by omega)]) (ne _ (by omega)) (ne _ (by omega)) (ne _ (by omega)) (ne _ (by omega)) (ne _ (by omega))
    refine Rel.mk h'0 hs2 hm5 oo (by rw [eR2]) (by rw [ne _ (by omega)]; exact o2 _ (by omega)) tr' ?_ ?_ ?_ ?_ ?_ e15_z ?_ (by omega)
    · refine FrR.adv (x_z := x_z) (n_z := n_z) (tk := tk) (w_z := w_z) q10_z hd_z e11_z (by rw [ne _ (by omega)]; exact o6 36 (by omega)) eR2 (fun a_z h1 h2 => ⟨by rw [crow a_z (by omega) (by omega)]; exact (c4_z a_z (by omega) (by omega) (by omega)).1, by rw [eL2]; exact (c4_z a_z (by omega) (by omega) (by omega)).2⟩) (by rw [crow _ (by omega) (by omega)]; exact c7_z) htk (by rw [crow _ (by omega) (by omega)]; exact c8_z) (by rw [crow _ (by omega) (by omega)]; exact c9_z) w0_z w1_z (by rw [crow _ (by omega) (by omega)]; exact c10_z) (by rw [eL2]; exact (c4_z _ (by omega) (by omega) (by omega)).2) (by rw [crow _ (by omega) (by omega)]; exact (c4_z _ (by omega) (by omega) (by omega)).1) (by rw [crow _ (by omega) (by omega)]; exact (c4_z _ (by omega) (by omega) (by omega)).1) (by rw [ne _ (by omega)]; exact o2 _ (by omega)) (by rw [ne _ (by omega)]; exact o2 _ (by omega)) t18 (by rw [ne _ (by omega)]; exact o5_z) (by rw [ne _ (by omega)]; exact o2 _ (by omega)) (by rw [ne _ (by omega)]; exact o2 _ (by omega)) (by rw [ne _ (by omega)]; exact o2 _ (by omega)) (by rw [ne _ (by omega)]; exact o2 _ (by omega)) (by rw [ne _ (by omega)]; exact o2 _ (by omega)) u3 u8 hlt hL z12 (by rw [ne _ (by omega)]; exact hpa) (by omega)
    · exact GsR.fr zg po rfl (by rw [ne _ (by omega)]) (fun _ _ _ => ⟨rfl, rfl⟩) (ne _ (by omega)) (ne _ (by omega))
    · exact PaR.fr zp (by omega) rfl rfl rfl rfl rfl rfl (by rw [ne _ (by omega)]) (by rw [ne _ (by omega)]) (by rw [ne _ (by omega)]) (by rw [ne _ (by omega)]) (ne _ (by omega)) (ne _ (by omega)) (ne _ (by omega))
    · exact ItR.fr zi po (fun _ _ _ => rfl) (by rw [ne _ (by omega)]) (ne _ (by omega))
    · rw [ne _ (by omega), o6 50 (by omega), e14_z]
      exact q14_z
    · rw [ne _ (by omega), o6 46 (by omega)]
      exact q16_z
end JB
