/-! THE SMALL MACHINE, part 6: one row of code, on both machines: new cells, calls, returns; the whole. Own work (written by a program of its own). -/
set_option maxHeartbeats 4000000 in
theorem st_new {lau : Launch} {G_z : Env0} {D_z : va_G} {dA : Nat → ClassId} {j_z nx pc len_z a_z b_z : Nat} {c_z : Int} {al_z st_z : List AV} {M_z : Mem} {Q_z : Option AV → Mem → Prop} {k_z : Nat} (hc_z : chkI j_z (.new k_z) pc len_z a_z b_z c_z nx = true) (hd_z : decode (mby j_z) pc = .ok ((.new k_z), len_z)) (h_z : stG lau G_z D_z dA j_z nx pc a_z b_z c_z al_z st_z M_z Q_z (.new k_z)) : XS lau G_z D_z dA j_z pc al_z st_z M_z Q_z := by
  intro p_z e_z R_z s_z m_z args_z below_z meth_z c0_z H_z locs_z cells_z slots_z ls C0_z hR hS_z hL hst
  simp only [stG, wpi] at h_z
  simp only [chkI, Bool.and_eq_true, Bool.or_eq_true, Nat.beq_eq, Nat.blt_eq, Nat.ble_eq, decide_eq_true_eq] at hc_z
  obtain ⟨⟨rfl, rfl⟩, hm_z⟩ := hc_z
  have h1 := List.all_eq_true.mp newL_ok _ (mem_c4 hm_z)
  simp only [Bool.and_eq_true, decide_eq_true_eq, Nat.blt_eq, Nat.beq_eq] at h1
  exact x_new C0_z hR hS_z h1.1.1.1.1 h1.1.1.1.2 h1.1.1.2 h1.1.2 h1.2 h_z.1 hd_z (fun H1_z kCells kSlots q1_z q2_z => h_z.2 p_z e_z R_z s_z m_z args_z below_z meth_z c0_z H1_z locs_z kCells kSlots ls C0_z q1_z q2_z hL (okc trivial hst))
set_option maxHeartbeats 4000000 in
theorem st_newarray {lau : Launch} {G_z : Env0} {D_z : va_G} {dA : Nat → ClassId} {j_z nx pc len_z a_z b_z : Nat} {c_z : Int} {al_z st_z : List AV} {M_z : Mem} {Q_z : Option AV → Mem → Prop} {t_z : ArrayType} (hc_z : chkI j_z (.newarray t_z) pc len_z a_z b_z c_z nx = true) (hd_z : decode (mby j_z) pc = .ok ((.newarray t_z), len_z)) (h_z : stG lau G_z D_z dA j_z nx pc a_z b_z c_z al_z st_z M_z Q_z (.newarray t_z)) : XS lau G_z D_z dA j_z pc al_z st_z M_z Q_z := by
  intro p_z e_z R_z s_z m_z args_z below_z meth_z c0_z H_z locs_z cells_z slots_z ls C0_z hR hS_z hL hst
  simp only [stG, wpi] at h_z
  simp only [chkI, Bool.and_eq_true, Bool.or_eq_true, Nat.beq_eq, Nat.blt_eq, Nat.ble_eq, decide_eq_true_eq] at hc_z
  obtain ⟨⟨rfl, rfl⟩, hk⟩ := hc_z
  split at h_z
  · refine x_newa C0_z hR hS_z h_z.1.1 h_z.1.2 ?_ h_z.2.1 hd_z (fun H1_z kCells kSlots q1_z q2_z => h_z.2.2 p_z e_z R_z s_z m_z args_z below_z meth_z c0_z H1_z locs_z kCells kSlots ls C0_z q1_z q2_z hL (okc trivial (okt hst)))
    rcases hk with (w_z | w_z) | w_z
    · exact Or.inl w_z
    · exact Or.inr (Or.inl w_z)
    · exact Or.inr (Or.inr w_z)
  · exact h_z.elim
set_option maxHeartbeats 4000000 in
theorem st_anewarray {lau : Launch} {G_z : Env0} {D_z : va_G} {dA : Nat → ClassId} {j_z nx pc len_z a_z b_z : Nat} {c_z : Int} {al_z st_z : List AV} {M_z : Mem} {Q_z : Option AV → Mem → Prop} {k_z : Nat} (hc_z : chkI j_z (.anewarray k_z) pc len_z a_z b_z c_z nx = true) (hd_z : decode (mby j_z) pc = .ok ((.anewarray k_z), len_z)) (h_z : stG lau G_z D_z dA j_z nx pc a_z b_z c_z al_z st_z M_z Q_z (.anewarray k_z)) : XS lau G_z D_z dA j_z pc al_z st_z M_z Q_z := by
  intro p_z e_z R_z s_z m_z args_z below_z meth_z c0_z H_z locs_z cells_z slots_z ls C0_z hR hS_z hL hst
  simp only [stG, wpi] at h_z
  simp only [chkI, Bool.and_eq_true, Bool.or_eq_true, Nat.beq_eq, Nat.blt_eq, Nat.ble_eq, decide_eq_true_eq] at hc_z
  obtain ⟨⟨rfl, rfl⟩, hm_z⟩ := hc_z
  have h1 := List.all_eq_true.mp anwL_ok _ (mem_c4 hm_z)
  simp only [Bool.and_eq_true, decide_eq_true_eq, Nat.blt_eq, Nat.ble_eq, List.any_eq_true, Nat.beq_eq] at h1
  obtain ⟨⟨⟨⟨⟨q_z, g1, g2, g3_z⟩, g4⟩, g5_z⟩, g6⟩, g7⟩ := h1
  have g8 : (a_z, FieldType.object (elR a_z)) ∈ tyA := by
    rw [← g3_z, ← g2]
    exact g1
  split at h_z
  · exact x_anew C0_z hR hS_z h_z.1.1 h_z.1.2 ⟨g4, g5_z, g8⟩ g6 g7 h_z.2.1 hd_z (fun H1_z kCells kSlots q1_z q2_z => h_z.2.2 p_z e_z R_z s_z m_z args_z below_z meth_z c0_z H1_z locs_z kCells kSlots ls C0_z q1_z q2_z hL (okc trivial (okt hst)))
  · exact h_z.elim
theorem popn_ok : ∀ (n_z : Nat) (st_z acc as_z st2_z : List AV), popn n_z st_z acc = some (as_z, st2_z) → as_z.reverse ++ st2_z = acc.reverse ++ st_z ∧ as_z.length = n_z + acc.length
  | 0, st_z, acc, as_z, st2_z, h_z => by
    simp only [popn] at h_z
    cases h_z
    exact ⟨rfl, by omega⟩
  | n_z + 1, [], acc, as_z, st2_z, h_z => by simp [popn] at h_z
  | n_z + 1, v_z :: st_z, acc, as_z, st2_z, h_z => by
    simp only [popn] at h_z
    obtain ⟨h1, h2⟩ := popn_ok n_z st_z (v_z :: acc) as_z st2_z h_z
    refine ⟨?_, by rw [h2, List.length_cons]; omega⟩
    rw [h1]
    simp
theorem pop0 {n_z : Nat} {st_z as_z st2_z : List AV} (h_z : popn n_z st_z [] = some (as_z, st2_z)) : st_z = as_z.reverse ++ st2_z ∧ as_z.length = n_z := by
  obtain ⟨h1, h2⟩ := popn_ok n_z st_z [] as_z st2_z h_z
  exact ⟨by rw [h1]; simp, by rw [h2]; simp⟩
theorem calHas_ok {o k_z a_z n_z cl_z how : Nat} (h_z : calHas o k_z a_z n_z cl_z how = true) : ∃ kd, calOk (o, k_z, a_z, n_z, cl_z, kd, how) := by
  unfold calHas at h_z
  obtain ⟨q_z, h1, h2⟩ := List.any_eq_true.mp h_z
  simp only [Bool.and_eq_true, Nat.beq_eq] at h2
  obtain ⟨⟨⟨⟨⟨e1_z, e2_z⟩, e3_z⟩, e4_z⟩, e5_z⟩, e6_z⟩ := h2
  refine ⟨q_z.2.2.2.2.2.1, ?_⟩
  have h3 := calL_ok q_z h1
  rw [← e1_z, ← e2_z, ← e3_z, ← e4_z, ← e5_z, ← e6_z]
  exact h3
set_option maxHeartbeats 4000000 in
theorem sv_invokestatic {lau : Launch} {G_z : Env0} {D_z : va_G} {dA : Nat → ClassId} {j_z pc a_z b_z : Nat} {al_z st_z : List AV} {M_z : Mem} {Q_z : Option AV → Mem → Prop} {k_z cl_z : Nat} (hd_z : decode (mby j_z) pc = .ok (.invokestatic k_z, 3)) (hrm0 : calRoom j_z a_z b_z = true) (hhas : calHas (mow j_z) k_z a_z (b_z % 1000) cl_z 0 = true)
    (h_z : wcall a_z b_z (Int.ofNat cl_z) st_z M_z (fun st_z M_z => XS lau G_z D_z dA j_z (pc + 3) al_z st_z M_z Q_z) (kCx lau G_z D_z dA)) : XS lau G_z D_z dA j_z pc al_z st_z M_z Q_z := by
  intro p_z e_z R_z s_z m_z args_z below_z meth_z c0_z H_z locs_z cells_z slots_z ls C0_z hR hS_z hL hst
  obtain ⟨kd, hcal⟩ := calHas_ok hhas
  have hcl0 : cl_z = 0 := by
    rcases hcal.2.2.2 with w_z | w_z | w_z
    · exact w_z.2.1
    · exact absurd w_z.1 (by decide)
    · exact absurd w_z.1 (by decide)
  have hrm := hrm0
  simp only [calRoom, Bool.and_eq_true, Nat.blt_eq, Nat.ble_eq] at hrm
  obtain ⟨⟨⟨⟨m1_z, m2_z⟩, m3_z⟩, m4_z⟩, m5_z⟩ := hrm
  unfold wcall at h_z
  cases hpp : popn (b_z % 1000) st_z [] with
  | none => rw [hpp] at h_z; exact h_z.elim
  | some pp =>
    obtain ⟨as_z, st2_z⟩ := pp
    obtain ⟨est, elen⟩ := pop0 hpp
    rw [hpp] at h_z
    dsimp only at h_z
    cases hcb : (cat8 st2_z && Nat.beq ((as_z.map catv).sum) (b_z / 1000)) with
    | false => rw [hcb] at h_z; exact h_z.elim
    | true =>
      rw [hcb] at h_z
      dsimp only at h_z
      simp only [cat8, Bool.and_eq_true, Nat.ble_eq, Nat.beq_eq] at hcb
      obtain ⟨hc8, hcw⟩ := hcb
      have hok : ∀ v_z ∈ as_z, okv v_z := fun v_z hv => hst v_z (by rw [est]; exact List.mem_append_left _ (List.mem_reverse.mpr hv))
      have ht : ∀ v_z ∈ st2_z, okv v_z := fun v_z hv => hst v_z (by rw [est]; exact List.mem_append_right _ hv)
      have hkc : ∃ Q2_z : Option AV → Mem → Prop, XS lau G_z D_z dA a_z 0 (ini (tab a_z).1 as_z) [] M_z Q2_z ∧ (¬ 0 = 0 → ∃ (r_z : Nat) (as2 : List AV), as_z = a_r r_z :: as2 ∧ gK M_z r_z = cl_z) ∧ (∀ r2 M2_z, Q2_z r2 M2_z → XS lau G_z D_z dA j_z (pc + 3) al_z (r2.toList ++ st2_z) M2_z Q_z) := by
        cases cl_z with
        | zero => exact ⟨_, h_z, fun w_z => absurd rfl w_z, fun r2 M2_z w_z => w_z⟩
        | succ cl2 => exfalso; exact absurd hcl0 (by omega)
      obtain ⟨Q2_z, hX, hrecv, hcont⟩ := hkc
      have kk : ∀ (r2 : Option AV) (M2_z : Mem) (H1_z : Heap) (locs1 : List Loc) (kCells kSlots : Nat), Q2_z r2 M2_z → (∀ v_z, r2 = some v_z → okv v_z) → RelM G_z D_z dA s_z M2_z H1_z → va_S (aA G_z) s_z.heap H1_z locs1 → W p_z lau e_z R_z s_z m_z args_z below_z meth_z c0_z H1_z locs1 kCells kSlots (MQ below_z (QcS G_z D_z dA Q_z) args_z s_z R_z.cells R_z.slots (aA G_z)) (F0 m_z (pc + 3) ls ((r2.map cv).toList ++ st2_z.map cv)) := by
        intro r2 M2_z H1_z locs1 kCells kSlots g1 g2 g3_z g4
        have g5_z := hcont r2 M2_z g1 p_z e_z R_z s_z m_z args_z below_z meth_z c0_z H1_z locs1 kCells kSlots ls C0_z g3_z g4 hL (fun v_z hv => (List.mem_append.mp hv).elim (fun w_z => g2 v_z (by cases r2 with | none => simp at w_z | some v2 => simp at w_z; rw [w_z])) (ht v_z))
        rw [List.map_append] at g5_z
        cases r2 <;> exact g5_z
      rw [est]
      exact x_call C0_z hR hS_z hL.1 m1_z m2_z hcal elen (by omega) m3_z m4_z hc8 hok hrecv hX ⟨_, hd_z, Or.inl ⟨rfl, rfl⟩⟩ kk
set_option maxHeartbeats 4000000 in
theorem sv_invokevirtual {lau : Launch} {G_z : Env0} {D_z : va_G} {dA : Nat → ClassId} {j_z pc a_z b_z : Nat} {al_z st_z : List AV} {M_z : Mem} {Q_z : Option AV → Mem → Prop} {k_z cl_z : Nat} (hd_z : decode (mby j_z) pc = .ok (.invokevirtual k_z, 3)) (hrm0 : calRoom j_z a_z b_z = true) (hhas : calHas (mow j_z) k_z a_z (b_z % 1000) cl_z 1 = true)
    (h_z : wcall a_z b_z (Int.ofNat cl_z) st_z M_z (fun st_z M_z => XS lau G_z D_z dA j_z (pc + 3) al_z st_z M_z Q_z) (kCx lau G_z D_z dA)) : XS lau G_z D_z dA j_z pc al_z st_z M_z Q_z := by
  intro p_z e_z R_z s_z m_z args_z below_z meth_z c0_z H_z locs_z cells_z slots_z ls C0_z hR hS_z hL hst
  obtain ⟨kd, hcal⟩ := calHas_ok hhas
  have hcl0 : 0 < cl_z := by
    rcases hcal.2.2.2 with w_z | w_z | w_z
    · exact absurd w_z.1 (by decide)
    · rcases w_z.2.2.2.2.2 with w2_z | w2_z <;> omega
    · exact absurd w_z.1 (by decide)
  have hrm := hrm0
  simp only [calRoom, Bool.and_eq_true, Nat.blt_eq, Nat.ble_eq] at hrm
  obtain ⟨⟨⟨⟨m1_z, m2_z⟩, m3_z⟩, m4_z⟩, m5_z⟩ := hrm
  unfold wcall at h_z
  cases hpp : popn (b_z % 1000) st_z [] with
  | none => rw [hpp] at h_z; exact h_z.elim
  | some pp =>
    obtain ⟨as_z, st2_z⟩ := pp
    obtain ⟨est, elen⟩ := pop0 hpp
    rw [hpp] at h_z
    dsimp only at h_z
    cases hcb : (cat8 st2_z && Nat.beq ((as_z.map catv).sum) (b_z / 1000)) with
    | false => rw [hcb] at h_z; exact h_z.elim
    | true =>
      rw [hcb] at h_z
      dsimp only at h_z
      simp only [cat8, Bool.and_eq_true, Nat.ble_eq, Nat.beq_eq] at hcb
      obtain ⟨hc8, hcw⟩ := hcb
      have hok : ∀ v_z ∈ as_z, okv v_z := fun v_z hv => hst v_z (by rw [est]; exact List.mem_append_left _ (List.mem_reverse.mpr hv))
      have ht : ∀ v_z ∈ st2_z, okv v_z := fun v_z hv => hst v_z (by rw [est]; exact List.mem_append_right _ hv)
      have hkc : ∃ Q2_z : Option AV → Mem → Prop, XS lau G_z D_z dA a_z 0 (ini (tab a_z).1 as_z) [] M_z Q2_z ∧ (¬ 1 = 0 → ∃ (r_z : Nat) (as2 : List AV), as_z = a_r r_z :: as2 ∧ gK M_z r_z = cl_z) ∧ (∀ r2 M2_z, Q2_z r2 M2_z → XS lau G_z D_z dA j_z (pc + 3) al_z (r2.toList ++ st2_z) M2_z Q_z) := by
        cases cl_z with
        | zero => exact absurd hcl0 (by omega)
        | succ cl2 =>
          rcases as_z with _ | ⟨v_z, as2⟩
          · exact h_z.elim
          · rcases v_z with z_z | z_z | r_z | u_z
            · exact h_z.elim
            · exact h_z.elim
            · exact ⟨_, h_z.2, fun _ => ⟨r_z, as2, rfl, h_z.1⟩, fun r2 M2_z w_z => w_z⟩
            · exact h_z.elim
      obtain ⟨Q2_z, hX, hrecv, hcont⟩ := hkc
      have kk : ∀ (r2 : Option AV) (M2_z : Mem) (H1_z : Heap) (locs1 : List Loc) (kCells kSlots : Nat), Q2_z r2 M2_z → (∀ v_z, r2 = some v_z → okv v_z) → RelM G_z D_z dA s_z M2_z H1_z → va_S (aA G_z) s_z.heap H1_z locs1 → W p_z lau e_z R_z s_z m_z args_z below_z meth_z c0_z H1_z locs1 kCells kSlots (MQ below_z (QcS G_z D_z dA Q_z) args_z s_z R_z.cells R_z.slots (aA G_z)) (F0 m_z (pc + 3) ls ((r2.map cv).toList ++ st2_z.map cv)) := by
        intro r2 M2_z H1_z locs1 kCells kSlots g1 g2 g3_z g4
        have g5_z := hcont r2 M2_z g1 p_z e_z R_z s_z m_z args_z below_z meth_z c0_z H1_z locs1 kCells kSlots ls C0_z g3_z g4 hL (fun v_z hv => (List.mem_append.mp hv).elim (fun w_z => g2 v_z (by cases r2 with | none => simp at w_z | some v2 => simp at w_z; rw [w_z])) (ht v_z))
        rw [List.map_append] at g5_z
        cases r2 <;> exact g5_z
      rw [est]
      exact x_call C0_z hR hS_z hL.1 m1_z m2_z hcal elen (by omega) m3_z m4_z hc8 hok hrecv hX ⟨_, hd_z, Or.inr (Or.inl ⟨rfl, rfl⟩)⟩ kk
set_option maxHeartbeats 4000000 in
theorem sv_invokespecial {lau : Launch} {G_z : Env0} {D_z : va_G} {dA : Nat → ClassId} {j_z pc a_z b_z : Nat} {al_z st_z : List AV} {M_z : Mem} {Q_z : Option AV → Mem → Prop} {k_z cl_z : Nat} (hd_z : decode (mby j_z) pc = .ok (.invokespecial k_z, 3)) (hrm0 : calRoom j_z a_z b_z = true) (hhas : calHas (mow j_z) k_z a_z (b_z % 1000) cl_z 2 = true)
    (h_z : wcall a_z b_z (Int.ofNat cl_z) st_z M_z (fun st_z M_z => XS lau G_z D_z dA j_z (pc + 3) al_z st_z M_z Q_z) (kCx lau G_z D_z dA)) : XS lau G_z D_z dA j_z pc al_z st_z M_z Q_z := by
  intro p_z e_z R_z s_z m_z args_z below_z meth_z c0_z H_z locs_z cells_z slots_z ls C0_z hR hS_z hL hst
  obtain ⟨kd, hcal⟩ := calHas_ok hhas
  have hcl0 : 0 < cl_z := by
    rcases hcal.2.2.2 with w_z | w_z | w_z
    · exact absurd w_z.1 (by decide)
    · exact absurd w_z.1 (by decide)
    · exact w_z.2.2.2.2.2.2.1
  have hrm := hrm0
  simp only [calRoom, Bool.and_eq_true, Nat.blt_eq, Nat.ble_eq] at hrm
  obtain ⟨⟨⟨⟨m1_z, m2_z⟩, m3_z⟩, m4_z⟩, m5_z⟩ := hrm
  unfold wcall at h_z
  cases hpp : popn (b_z % 1000) st_z [] with
  | none => rw [hpp] at h_z; exact h_z.elim
  | some pp =>
    obtain ⟨as_z, st2_z⟩ := pp
    obtain ⟨est, elen⟩ := pop0 hpp
    rw [hpp] at h_z
    dsimp only at h_z
    cases hcb : (cat8 st2_z && Nat.beq ((as_z.map catv).sum) (b_z / 1000)) with
    | false => rw [hcb] at h_z; exact h_z.elim
    | true =>
      rw [hcb] at h_z
      dsimp only at h_z
      simp only [cat8, Bool.and_eq_true, Nat.ble_eq, Nat.beq_eq] at hcb
      obtain ⟨hc8, hcw⟩ := hcb
      have hok : ∀ v_z ∈ as_z, okv v_z := fun v_z hv => hst v_z (by rw [est]; exact List.mem_append_left _ (List.mem_reverse.mpr hv))
      have ht : ∀ v_z ∈ st2_z, okv v_z := fun v_z hv => hst v_z (by rw [est]; exact List.mem_append_right _ hv)
      have hkc : ∃ Q2_z : Option AV → Mem → Prop, XS lau G_z D_z dA a_z 0 (ini (tab a_z).1 as_z) [] M_z Q2_z ∧ (¬ 2 = 0 → ∃ (r_z : Nat) (as2 : List AV), as_z = a_r r_z :: as2 ∧ gK M_z r_z = cl_z) ∧ (∀ r2 M2_z, Q2_z r2 M2_z → XS lau G_z D_z dA j_z (pc + 3) al_z (r2.toList ++ st2_z) M2_z Q_z) := by
        cases cl_z with
        | zero => exact absurd hcl0 (by omega)
        | succ cl2 =>
          rcases as_z with _ | ⟨v_z, as2⟩
          · exact h_z.elim
          · rcases v_z with z_z | z_z | r_z | u_z
            · exact h_z.elim
            · exact h_z.elim
            · exact ⟨_, h_z.2, fun _ => ⟨r_z, as2, rfl, h_z.1⟩, fun r2 M2_z w_z => w_z⟩
            · exact h_z.elim
      obtain ⟨Q2_z, hX, hrecv, hcont⟩ := hkc
      have kk : ∀ (r2 : Option AV) (M2_z : Mem) (H1_z : Heap) (locs1 : List Loc) (kCells kSlots : Nat), Q2_z r2 M2_z → (∀ v_z, r2 = some v_z → okv v_z) → RelM G_z D_z dA s_z M2_z H1_z → va_S (aA G_z) s_z.heap H1_z locs1 → W p_z lau e_z R_z s_z m_z args_z below_z meth_z c0_z H1_z locs1 kCells kSlots (MQ below_z (QcS G_z D_z dA Q_z) args_z s_z R_z.cells R_z.slots (aA G_z)) (F0 m_z (pc + 3) ls ((r2.map cv).toList ++ st2_z.map cv)) := by
        intro r2 M2_z H1_z locs1 kCells kSlots g1 g2 g3_z g4
        have g5_z := hcont r2 M2_z g1 p_z e_z R_z s_z m_z args_z below_z meth_z c0_z H1_z locs1 kCells kSlots ls C0_z g3_z g4 hL (fun v_z hv => (List.mem_append.mp hv).elim (fun w_z => g2 v_z (by cases r2 with | none => simp at w_z | some v2 => simp at w_z; rw [w_z])) (ht v_z))
        rw [List.map_append] at g5_z
        cases r2 <;> exact g5_z
      rw [est]
      exact x_call C0_z hR hS_z hL.1 m1_z m2_z hcal elen (by omega) m3_z m4_z hc8 hok hrecv hX ⟨_, hd_z, Or.inr (Or.inr ⟨rfl, rfl⟩)⟩ kk
theorem wspec_copy {c_z : Int} {st_z : List AV} {M_z : Mem} {kn_z : List AV → Mem → Prop} (hc_z : c_z = Int.negSucc 1) (h_z : wspec c_z st_z M_z kn_z) : ∃ (n_z jd : Int) (rb : Nat) (i_z : Int) (ra : Nat) (st2_z : List AV), st_z = a_i n_z :: a_i jd :: a_r rb :: a_i i_z :: a_r ra :: st2_z ∧ cat8 st2_z = true ∧ ¬ ra = rb ∧ 0 ≤ i_z ∧ 0 ≤ jd ∧ 0 ≤ n_z ∧ i_z + n_z ≤ gN M_z ra ∧ jd + n_z ≤ gN M_z rb ∧
    ((gK M_z ra = 100 ∧ gK M_z rb = 100 ∧ kn_z st2_z (uCI M_z rb jd ra i_z n_z)) ∨ (gK M_z ra = 101 ∧ gK M_z rb = 101 ∧ kn_z st2_z (uCL M_z rb jd ra i_z n_z))) := by
  unfold wspec at h_z
  split at h_z
  · exact absurd hc_z (by decide)
  · split at h_z
    · split at h_z
      · rename_i hc8
        exact ⟨_, _, _, _, _, _, rfl, hc8, h_z⟩
      · exact h_z.elim
    · exact h_z.elim
theorem wspec_obj {c_z : Int} {st_z : List AV} {M_z : Mem} {kn_z : List AV → Mem → Prop} (hc_z : c_z = Int.negSucc 0) (h_z : wspec c_z st_z M_z kn_z) : ∃ (r_z : Nat) (st2_z : List AV), st_z = a_r r_z :: st2_z ∧ cat8 st2_z = true ∧ ¬ r_z = 0 ∧ kn_z st2_z M_z := by
  unfold wspec at h_z
  split at h_z
  · split at h_z
    · split at h_z
      · rename_i hc8
        exact ⟨_, _, rfl, hc8, h_z⟩
      · exact h_z.elim
    · exact h_z.elim
  · rename_i hcc
    exact absurd hc_z hcc
set_option maxHeartbeats 4000000 in
theorem st_invokestatic {lau : Launch} {G_z : Env0} {D_z : va_G} {dA : Nat → ClassId} {j_z nx pc len_z a_z b_z : Nat} {c_z : Int} {al_z st_z : List AV} {M_z : Mem} {Q_z : Option AV → Mem → Prop} {k_z : Nat} (hc_z : chkI j_z (.invokestatic k_z) pc len_z a_z b_z c_z nx = true) (hd_z : decode (mby j_z) pc = .ok ((.invokestatic k_z), len_z)) (h_z : stG lau G_z D_z dA j_z nx pc a_z b_z c_z al_z st_z M_z Q_z (.invokestatic k_z)) : XS lau G_z D_z dA j_z pc al_z st_z M_z Q_z := by
  intro p_z e_z R_z s_z m_z args_z below_z meth_z c0_z H_z locs_z cells_z slots_z ls C0_z hR hS_z hL hst
  simp only [stG, wpi] at h_z
  rcases c_z with cl_z | cn
  · simp only [chkI, Bool.and_eq_true, Nat.beq_eq] at hc_z
    obtain ⟨⟨⟨rfl, rfl⟩, hrm⟩, hhas⟩ := hc_z
    exact sv_invokestatic hd_z hrm hhas h_z p_z e_z R_z s_z m_z args_z below_z meth_z c0_z H_z locs_z cells_z slots_z ls C0_z hR hS_z hL hst
  · rcases cn with _ | _ | cn
    · exact h_z.elim
    · simp only [chkI, Bool.and_eq_true, Nat.beq_eq, Nat.ble_eq] at hc_z
      obtain ⟨⟨⟨⟨rfl, rfl⟩, hm_z⟩, hf⟩, hl⟩ := hc_z
      obtain ⟨n_z, jd, rb, i2_z, ra, st2_z, rfl, hc8, h1, h2, h3, h4, h5, h6, h7⟩ := wspec_copy rfl (show wspec (Int.negSucc 1) st_z M_z (fun st_z M_z => XS lau G_z D_z dA j_z (pc + 3) al_z st_z M_z Q_z) from h_z)
      simp only [cat8, Nat.ble_eq] at hc8
      have hmm : (onm (mow j_z), k_z) ∈ acpL.map (fun q_z => (onm q_z.1, q_z.2)) := List.mem_map.mpr ⟨(mow j_z, k_z), mem_c2 hm_z, rfl⟩
      have hfr := C0_z.hfr
      have hlo := C0_z.hlo
      have hnw : nativeFrameWords "java/lang/System" "arraycopy" 5 = 7 := by decide
      have ht := okt (okt (okt (okt (okt hst))))
      have hW : ((st2_z.map cv).map fun v_z => v_z.category).sum + (nativeFrameWords "java/lang/System" "arraycopy" 5 + 11) ≤ R_z.locals := by rw [sum_cv, hnw]; omega
      rcases h7 with ⟨k1_z, k2_z, k3_z⟩ | ⟨k1_z, k2_z, k3_z⟩
      · exact x_copy C0_z hR hS_z hL.1 hmm h1 h2 h3 h4 h5 h6 (by omega) hW hd_z (Or.inl ⟨k1_z, k2_z, rfl⟩) (fun H1_z locs1 q1_z q2_z => k3_z p_z e_z R_z s_z m_z args_z below_z meth_z c0_z H1_z locs1 cells_z slots_z ls C0_z q1_z q2_z hL ht)
      · exact x_copy C0_z hR hS_z hL.1 hmm h1 h2 h3 h4 h5 h6 (by omega) hW hd_z (Or.inr ⟨k1_z, k2_z, rfl⟩) (fun H1_z locs1 q1_z q2_z => k3_z p_z e_z R_z s_z m_z args_z below_z meth_z c0_z H1_z locs1 cells_z slots_z ls C0_z q1_z q2_z hL ht)
    · exact h_z.elim
set_option maxHeartbeats 4000000 in
theorem st_invokespecial {lau : Launch} {G_z : Env0} {D_z : va_G} {dA : Nat → ClassId} {j_z nx pc len_z a_z b_z : Nat} {c_z : Int} {al_z st_z : List AV} {M_z : Mem} {Q_z : Option AV → Mem → Prop} {k_z : Nat} (hc_z : chkI j_z (.invokespecial k_z) pc len_z a_z b_z c_z nx = true) (hd_z : decode (mby j_z) pc = .ok ((.invokespecial k_z), len_z)) (h_z : stG lau G_z D_z dA j_z nx pc a_z b_z c_z al_z st_z M_z Q_z (.invokespecial k_z)) : XS lau G_z D_z dA j_z pc al_z st_z M_z Q_z := by
  intro p_z e_z R_z s_z m_z args_z below_z meth_z c0_z H_z locs_z cells_z slots_z ls C0_z hR hS_z hL hst
  simp only [stG, wpi] at h_z
  rcases c_z with cl_z | cn
  · simp only [chkI, Bool.and_eq_true, Nat.beq_eq] at hc_z
    obtain ⟨⟨⟨rfl, rfl⟩, hrm⟩, hhas⟩ := hc_z
    exact sv_invokespecial hd_z hrm hhas h_z p_z e_z R_z s_z m_z args_z below_z meth_z c0_z H_z locs_z cells_z slots_z ls C0_z hR hS_z hL hst
  · rcases cn with _ | cn
    · simp only [chkI, Bool.and_eq_true, Nat.beq_eq, Nat.ble_eq] at hc_z
      obtain ⟨⟨⟨⟨rfl, rfl⟩, hm_z⟩, hf⟩, hl⟩ := hc_z
      obtain ⟨r_z, st2_z, rfl, hc8, h1, h2⟩ := wspec_obj rfl (show wspec (Int.negSucc 0) st_z M_z (fun st_z M_z => XS lau G_z D_z dA j_z (pc + 3) al_z st_z M_z Q_z) from h_z)
      simp only [cat8, Nat.ble_eq] at hc8
      exact x_obi C0_z hL.1 (mem_c2 hm_z) h1 hf hl hc8 hd_z (h2 p_z e_z R_z s_z m_z args_z below_z meth_z c0_z H_z locs_z cells_z slots_z ls C0_z hR hS_z hL (okt hst))
    · exact h_z.elim
set_option maxHeartbeats 4000000 in
theorem st_invokevirtual {lau : Launch} {G_z : Env0} {D_z : va_G} {dA : Nat → ClassId} {j_z nx pc len_z a_z b_z : Nat} {c_z : Int} {al_z st_z : List AV} {M_z : Mem} {Q_z : Option AV → Mem → Prop} {k_z : Nat} (hc_z : chkI j_z (.invokevirtual k_z) pc len_z a_z b_z c_z nx = true) (hd_z : decode (mby j_z) pc = .ok ((.invokevirtual k_z), len_z)) (h_z : stG lau G_z D_z dA j_z nx pc a_z b_z c_z al_z st_z M_z Q_z (.invokevirtual k_z)) : XS lau G_z D_z dA j_z pc al_z st_z M_z Q_z := by
  intro p_z e_z R_z s_z m_z args_z below_z meth_z c0_z H_z locs_z cells_z slots_z ls C0_z hR hS_z hL hst
  simp only [stG, wpi] at h_z
  rcases c_z with cl_z | cn
  · simp only [chkI, Bool.and_eq_true, Bool.or_eq_true, Nat.beq_eq] at hc_z
    obtain ⟨⟨⟨rfl, rfl⟩, hrm⟩, hhas⟩ := hc_z
    rcases hhas with hhas | ⟨⟨hcl, hb_z⟩, hm_z⟩
    · exact sv_invokevirtual hd_z hrm hhas h_z p_z e_z R_z s_z m_z args_z below_z meth_z c0_z H_z locs_z cells_z slots_z ls C0_z hR hS_z hL hst
    · subst hcl
      subst hb_z
      simp only [calRoom, Bool.and_eq_true, Nat.blt_eq, Nat.ble_eq] at hrm
      obtain ⟨⟨⟨⟨m1_z, m2_z⟩, m3_z⟩, m4_z⟩, m5_z⟩ := hrm
      unfold wcall at h_z
      rcases st_z with _ | ⟨v_z, st2_z⟩
      · exact h_z.elim
      · have hpp : popn (1001 % 1000) (v_z :: st2_z) [] = some ([v_z], st2_z) := rfl
        rw [hpp] at h_z
        dsimp only at h_z
        cases hcb : (cat8 st2_z && Nat.beq (([v_z].map catv).sum) (1001 / 1000)) with
        | false => rw [hcb] at h_z; exact h_z.elim
        | true =>
          rw [hcb] at h_z
          dsimp only at h_z
          simp only [cat8, Bool.and_eq_true, Nat.ble_eq, Nat.beq_eq] at hcb
          rcases v_z with z_z | z_z | r_z | u_z
          · exact h_z.elim
          · exact h_z.elim
          · refine x_ord C0_z hR hS_z hL.1 m1_z m2_z (mem_c5 hm_z) h_z.1 (by omega) m3_z m4_z hcb.1 h_z.2 hd_z (fun r2 M2_z H1_z locs1 kCells kSlots g1 g2 g3_z g4 => ?_)
            have g5_z := g1 p_z e_z R_z s_z m_z args_z below_z meth_z c0_z H1_z locs1 kCells kSlots ls C0_z g3_z g4 hL (fun v_z hv => (List.mem_append.mp hv).elim (fun w_z => g2 v_z (by cases r2 with | none => simp at w_z | some v2 => simp at w_z; rw [w_z])) (okt hst v_z))
            rw [List.map_append] at g5_z
            cases r2 <;> exact g5_z
          · exact h_z.elim
  · exact h_z.elim
theorem byte_ok : ∀ n_z : Nat, n_z < 256 → narrow .byte (.int (Int32.ofInt ((n_z : Int) - 128))) = .int (Int32.ofInt ((n_z : Int) - 128)) := by decide +kernel
set_option maxHeartbeats 4000000 in
theorem st_ireturn {lau : Launch} {G_z : Env0} {D_z : va_G} {dA : Nat → ClassId} {j_z nx pc len_z a_z b_z : Nat} {c_z : Int} {al_z st_z : List AV} {M_z : Mem} {Q_z : Option AV → Mem → Prop} (hc_z : chkI j_z .ireturn pc len_z a_z b_z c_z nx = true) (hd_z : decode (mby j_z) pc = .ok (.ireturn, len_z)) (h_z : stG lau G_z D_z dA j_z nx pc a_z b_z c_z al_z st_z M_z Q_z .ireturn) : XS lau G_z D_z dA j_z pc al_z st_z M_z Q_z := by
  intro p_z e_z R_z s_z m_z args_z below_z meth_z c0_z H_z locs_z cells_z slots_z ls C0_z hR hS_z hL hst
  simp only [stG, wpi] at h_z
  simp only [chkI, Bool.and_eq_true, Bool.or_eq_true, Nat.beq_eq, Nat.blt_eq, Nat.ble_eq, decide_eq_true_eq] at hc_z
  obtain ⟨rfl, hr⟩ := hc_z
  split at h_z
  · rename_i z_z
    have hz := ok1 hst
    refine x_ret C0_z hR hS_z h_z.2 (show okv (a_i z_z) from hz) hd_z (Or.inl ⟨rfl, ?_⟩)
    rcases hr with ((⟨w1_z, w2_z⟩ | ⟨w1_z, w2_z⟩) | ⟨w1_z, w2_z⟩) | ⟨w1_z, w2_z⟩
    · exact ⟨z_z, _, rfl, w2_z, rfl⟩
    · subst w1_z
      refine ⟨z_z, _, rfl, w2_z, ?_⟩
      rcases h_z.1 with q_z | q_z <;> (rw [q_z]; decide)
    · subst w1_z
      refine ⟨z_z, _, rfl, w2_z, ?_⟩
      have q_z := (pk_charN (q := z_z.toNat) (by have := h_z.1.2; omega)).1
      rw [show Int32.ofInt z_z = nI z_z.toNat by unfold nI; rw [← Int32.ofInt_eq_ofNat]; congr 1; have := h_z.1.1; omega]
      exact q_z
    · subst w1_z
      refine ⟨z_z, _, rfl, w2_z, ?_⟩
      have q_z := byte_ok (z_z + 128).toNat (by have := h_z.1.2; omega)
      rw [show (((z_z + 128).toNat : Nat) : Int) - 128 = z_z by have := h_z.1.1; omega] at q_z
      exact q_z
  · exact h_z.elim
set_option maxHeartbeats 4000000 in
theorem st_lreturn {lau : Launch} {G_z : Env0} {D_z : va_G} {dA : Nat → ClassId} {j_z nx pc len_z a_z b_z : Nat} {c_z : Int} {al_z st_z : List AV} {M_z : Mem} {Q_z : Option AV → Mem → Prop} (hc_z : chkI j_z .lreturn pc len_z a_z b_z c_z nx = true) (hd_z : decode (mby j_z) pc = .ok (.lreturn, len_z)) (h_z : stG lau G_z D_z dA j_z nx pc a_z b_z c_z al_z st_z M_z Q_z .lreturn) : XS lau G_z D_z dA j_z pc al_z st_z M_z Q_z := by
  intro p_z e_z R_z s_z m_z args_z below_z meth_z c0_z H_z locs_z cells_z slots_z ls C0_z hR hS_z hL hst
  simp only [stG, wpi] at h_z
  simp only [chkI, Bool.and_eq_true, Bool.or_eq_true, Nat.beq_eq, Nat.blt_eq, Nat.ble_eq, decide_eq_true_eq] at hc_z
  obtain ⟨rfl, hr⟩ := hc_z
  split at h_z
  · rename_i z_z
    exact x_ret C0_z hR hS_z h_z (show okv (a_l z_z) from ok1 hst) hd_z (Or.inr (Or.inl ⟨rfl, hr, z_z, rfl⟩))
  · exact h_z.elim
set_option maxHeartbeats 4000000 in
theorem st_areturn {lau : Launch} {G_z : Env0} {D_z : va_G} {dA : Nat → ClassId} {j_z nx pc len_z a_z b_z : Nat} {c_z : Int} {al_z st_z : List AV} {M_z : Mem} {Q_z : Option AV → Mem → Prop} (hc_z : chkI j_z .areturn pc len_z a_z b_z c_z nx = true) (hd_z : decode (mby j_z) pc = .ok (.areturn, len_z)) (h_z : stG lau G_z D_z dA j_z nx pc a_z b_z c_z al_z st_z M_z Q_z .areturn) : XS lau G_z D_z dA j_z pc al_z st_z M_z Q_z := by
  intro p_z e_z R_z s_z m_z args_z below_z meth_z c0_z H_z locs_z cells_z slots_z ls C0_z hR hS_z hL hst
  simp only [stG, wpi] at h_z
  simp only [chkI, Bool.and_eq_true, Bool.or_eq_true, Nat.beq_eq, Nat.blt_eq, Nat.ble_eq, decide_eq_true_eq] at hc_z
  obtain ⟨rfl, hr⟩ := hc_z
  split at h_z
  · rename_i z_z
    refine x_ret C0_z hR hS_z h_z (show okv (a_r z_z) from trivial) hd_z (Or.inr (Or.inr ⟨rfl, ⟨z_z, rfl⟩, ?_⟩))
    unfold isRefTy at hr
    split at hr
    · rename_i n_z e9_z
      exact ⟨_, e9_z, Or.inl ⟨n_z, rfl⟩⟩
    · rename_i n_z e9_z
      exact ⟨_, e9_z, Or.inr ⟨n_z, rfl⟩⟩
    · exact absurd hr (by decide)
  · exact h_z.elim
set_option maxHeartbeats 4000000 in
theorem st_return_ {lau : Launch} {G_z : Env0} {D_z : va_G} {dA : Nat → ClassId} {j_z nx pc len_z a_z b_z : Nat} {c_z : Int} {al_z st_z : List AV} {M_z : Mem} {Q_z : Option AV → Mem → Prop} (hc_z : chkI j_z .return_ pc len_z a_z b_z c_z nx = true) (hd_z : decode (mby j_z) pc = .ok (.return_, len_z)) (h_z : stG lau G_z D_z dA j_z nx pc a_z b_z c_z al_z st_z M_z Q_z .return_) : XS lau G_z D_z dA j_z pc al_z st_z M_z Q_z := by
  intro p_z e_z R_z s_z m_z args_z below_z meth_z c0_z H_z locs_z cells_z slots_z ls C0_z hR hS_z hL hst
  simp only [stG, wpi] at h_z
  simp only [chkI, Bool.and_eq_true, Bool.or_eq_true, Nat.beq_eq, Nat.blt_eq, Nat.ble_eq, decide_eq_true_eq] at hc_z
  obtain ⟨rfl, hr⟩ := hc_z
  split at h_z
  · exact x_vret C0_z hR hS_z h_z hr hd_z
  · exact h_z.elim
set_option maxHeartbeats 4000000 in
/-- every row of code -/
theorem sim_i {lau : Launch} {G_z : Env0} {D_z : va_G} {dA : Nat → ClassId} {j_z nx pc len_z a_z b_z : Nat} {c_z : Int} {al_z st_z : List AV} {M_z : Mem} {Q_z : Option AV → Mem → Prop} {i_z : Instr} (hc_z : chkI j_z i_z pc len_z a_z b_z c_z nx = true) (hd_z : decode (mby j_z) pc = .ok (i_z, len_z)) (h_z : stG lau G_z D_z dA j_z nx pc a_z b_z c_z al_z st_z M_z Q_z i_z) : XS lau G_z D_z dA j_z pc al_z st_z M_z Q_z := by
  cases i_z
  case aconst_null => exact st_aconst_null hc_z hd_z h_z
  case iconst => exact st_iconst hc_z hd_z h_z
  case bipush => exact st_bipush hc_z hd_z h_z
  case sipush => exact st_sipush hc_z hd_z h_z
  case lconst => exact st_lconst hc_z hd_z h_z
  case ldc => exact st_ldc hc_z hd_z h_z
  case ldc_w => exact st_ldc_w hc_z hd_z h_z
  case ldc2_w => exact st_ldc2_w hc_z hd_z h_z
  case iload_n => exact st_iload_n hc_z hd_z h_z
  case iload => exact st_iload hc_z hd_z h_z
  case lload_n => exact st_lload_n hc_z hd_z h_z
  case lload => exact st_lload hc_z hd_z h_z
  case aload_n => exact st_aload_n hc_z hd_z h_z
  case aload => exact st_aload hc_z hd_z h_z
  case istore_n => exact st_istore_n hc_z hd_z h_z
  case istore => exact st_istore hc_z hd_z h_z
  case lstore_n => exact st_lstore_n hc_z hd_z h_z
  case lstore => exact st_lstore hc_z hd_z h_z
  case astore_n => exact st_astore_n hc_z hd_z h_z
  case astore => exact st_astore hc_z hd_z h_z
  case iinc => exact st_iinc hc_z hd_z h_z
  case iadd => exact st_iadd hc_z hd_z h_z
  case isub => exact st_isub hc_z hd_z h_z
  case imul => exact st_imul hc_z hd_z h_z
  case idiv => exact st_idiv hc_z hd_z h_z
  case irem => exact st_irem hc_z hd_z h_z
  case ineg => exact st_ineg hc_z hd_z h_z
  case iand => exact st_iand hc_z hd_z h_z
  case ishr => exact st_ishr hc_z hd_z h_z
  case i2c => exact st_i2c hc_z hd_z h_z
  case ladd => exact st_ladd hc_z hd_z h_z
  case lsub => exact st_lsub hc_z hd_z h_z
  case lmul => exact st_lmul hc_z hd_z h_z
  case ldiv => exact st_ldiv hc_z hd_z h_z
  case lrem => exact st_lrem hc_z hd_z h_z
  case lneg => exact st_lneg hc_z hd_z h_z
  case lor => exact st_lor hc_z hd_z h_z
  case lxor => exact st_lxor hc_z hd_z h_z
  case lshl => exact st_lshl hc_z hd_z h_z
  case lshr => exact st_lshr hc_z hd_z h_z
  case i2l => exact st_i2l hc_z hd_z h_z
  case l2i => exact st_l2i hc_z hd_z h_z
  case lcmp => exact st_lcmp hc_z hd_z h_z
  case dup => exact st_dup hc_z hd_z h_z
  case dup2 => exact st_dup2 hc_z hd_z h_z
  case pop => exact st_pop hc_z hd_z h_z
  case ifCond => exact st_ifCond hc_z hd_z h_z
  case if_icmp => exact st_if_icmp hc_z hd_z h_z
  case ifnull => exact st_ifnull hc_z hd_z h_z
  case ifnonnull => exact st_ifnonnull hc_z hd_z h_z
  case goto => exact st_goto hc_z hd_z h_z
  case tableswitch => exact st_tableswitch hc_z hd_z h_z
  case lookupswitch => exact st_lookupswitch hc_z hd_z h_z
  case getfield => exact st_getfield hc_z hd_z h_z
  case putfield => exact st_putfield hc_z hd_z h_z
  case getstatic => exact st_getstatic hc_z hd_z h_z
  case arraylength => exact st_arraylength hc_z hd_z h_z
  case iaload => exact st_iaload hc_z hd_z h_z
  case laload => exact st_laload hc_z hd_z h_z
  case baload => exact st_baload hc_z hd_z h_z
  case aaload => exact st_aaload hc_z hd_z h_z
  case iastore => exact st_iastore hc_z hd_z h_z
  case lastore => exact st_lastore hc_z hd_z h_z
  case bastore => exact st_bastore hc_z hd_z h_z
  case aastore => exact st_aastore hc_z hd_z h_z
  case new => exact st_new hc_z hd_z h_z
  case newarray => exact st_newarray hc_z hd_z h_z
  case anewarray => exact st_anewarray hc_z hd_z h_z
  case invokevirtual => exact st_invokevirtual hc_z hd_z h_z
  case invokestatic => exact st_invokestatic hc_z hd_z h_z
  case invokespecial => exact st_invokespecial hc_z hd_z h_z
  case ireturn => exact st_ireturn hc_z hd_z h_z
  case lreturn => exact st_lreturn hc_z hd_z h_z
  case areturn => exact st_areturn hc_z hd_z h_z
  case return_ => exact st_return_ hc_z hd_z h_z
  case if_acmp k o => cases k with
    | eq => exact st_acmp_eq hc_z hd_z h_z
    | ne => exact st_acmp_ne hc_z hd_z h_z
  all_goals exact h_z.elim
/-- THE SMALL MACHINE IS THE MACHINE: what it says of a_z method, the machine does -/
theorem sim_X {lau : Launch} {G_z : Env0} {D_z : va_G} {dA : Nat → ClassId} (hck : ∀ j_z, chkJ j_z = true) {j_z pc : Nat} {al_z st_z : List AV} {M_z : Mem} {Q_z : Option AV → Mem → Prop} (h_z : At G_z j_z pc al_z st_z M_z Q_z) : XS lau G_z D_z dA j_z pc al_z st_z M_z Q_z := by
  refine At.ind (X := XS lau G_z D_z dA) (fun j_z pc al_z st_z M_z Q_z hs => ?_) h_z
  unfold stepX at hs
  split at hs
  · exact hs.elim
  · rename_i p_z i_z len_z a_z b_z c_z L_z e9_z
    have h1 := hck j_z
    simp only [chkJ, Bool.and_eq_true] at h1
    obtain ⟨e1_z, e2_z, e3_z⟩ := chkL_at j_z _ h1.1 pc p_z i_z len_z a_z b_z c_z L_z e9_z
    subst e1_z
    exact sim_i e3_z e2_z hs
