/-! THE SMALL MACHINE, part 6: one row of code, on both machines. Own work (written by a program of its own). -/
abbrev kNx (lau : Launch) (G_z : Env0) (D_z : va_G) (dA : Nat → ClassId) (j_z nx : Nat) (Q_z : Option AV → Mem → Prop) : List AV → List AV → Mem → Prop := fun l s_z m_z => XS lau G_z D_z dA j_z nx l s_z m_z Q_z
abbrev kJx (lau : Launch) (G_z : Env0) (D_z : va_G) (dA : Nat → ClassId) (j_z : Nat) (Q_z : Option AV → Mem → Prop) : Nat → List AV → List AV → Mem → Prop := fun t_z l s_z m_z => XS lau G_z D_z dA j_z t_z l s_z m_z Q_z
abbrev kCx (lau : Launch) (G_z : Env0) (D_z : va_G) (dA : Nat → ClassId) : Nat → List AV → Mem → (Option AV → Mem → Prop) → Prop := fun j2_z as_z m_z Q2_z => XS lau G_z D_z dA j2_z 0 (ini (tab j2_z).1 as_z) [] m_z Q2_z
abbrev stG (lau : Launch) (G_z : Env0) (D_z : va_G) (dA : Nat → ClassId) (j_z nx pc a_z b_z : Nat) (c_z : Int) (al_z st_z : List AV) (M_z : Mem) (Q_z : Option AV → Mem → Prop) (i_z : Instr) : Prop := wpi G_z i_z pc a_z b_z c_z al_z st_z M_z (kNx lau G_z D_z dA j_z nx Q_z) (kJx lau G_z D_z dA j_z Q_z) (kCx lau G_z D_z dA) Q_z
theorem RL.get {n_z : Nat} {al_z : List AV} {ls : Array Slot} (hL : RL n_z al_z ls) {k_z : Nat} {v_z : AV} (hk : al_z[k_z]? = some v_z) (hv : v_z ≠ a_u) : okv v_z ∧ ls[k_z]? = some (.val (cv v_z)) := (hL.2.2 k_z v_z hk).resolve_left hv
theorem okc {v_z : AV} {st_z : List AV} (h1 : okv v_z) (h2 : ∀ w ∈ st_z, okv w) : ∀ w ∈ v_z :: st_z, okv w := List.forall_mem_cons.mpr ⟨h1, h2⟩
theorem ok1 {v_z : AV} {st_z : List AV} (h_z : ∀ w ∈ v_z :: st_z, okv w) : okv v_z := (List.forall_mem_cons.mp h_z).1
theorem okt {v_z : AV} {st_z : List AV} (h_z : ∀ w ∈ v_z :: st_z, okv w) : ∀ w ∈ st_z, okv w := (List.forall_mem_cons.mp h_z).2
theorem tg_ok {pc : Nat} {o : Int} (h_z : tgOk pc o = true) : (pc : Int) + o = (tgt pc o : Int) := by
  simp only [tgOk, decide_eq_true_eq] at h_z
  unfold tgt
  omega
theorem sm_in {z_z : Int} (h_z : -32768 ≤ z_z ∧ z_z ≤ 32767) : inI z_z := ⟨by omega, by omega⟩
theorem mem_c5 {l : List (Nat × Nat × Nat × Nat × Nat)} {x_z : Nat × Nat × Nat × Nat × Nat} (h_z : l.contains x_z = true) : x_z ∈ l := by simpa using h_z
theorem mem_c4 {l : List (Nat × Nat × Nat × Nat)} {x_z : Nat × Nat × Nat × Nat} (h_z : l.contains x_z = true) : x_z ∈ l := by simpa using h_z
theorem mem_c2 {l : List (Nat × Nat)} {x_z : Nat × Nat} (h_z : l.contains x_z = true) : x_z ∈ l := by simpa using h_z
theorem mem_ci {l : List (Nat × Nat × Int)} {x_z : Nat × Nat × Int} (h_z : l.contains x_z = true) : x_z ∈ l := by simpa using h_z
theorem b8_ok : ∀ n_z : Nat, n_z < 256 → (Int8.ofInt ((n_z : Int) - 128)).toInt32 = Int32.ofInt ((n_z : Int) - 128) := by decide +kernel
theorem b8 {z_z : Int} (h_z : -128 ≤ z_z ∧ z_z ≤ 127) : (Int8.ofInt z_z).toInt32 = Int32.ofInt z_z := by
  have h1 := b8_ok (z_z + 128).toNat (by omega)
  rw [show (((z_z + 128).toNat : Nat) : Int) - 128 = z_z by omega] at h1
  exact h1
theorem b16 {z_z : Int} (h_z : -32768 ≤ z_z ∧ z_z ≤ 32767) : (Int16.ofInt z_z).toInt32 = Int32.ofInt z_z := by
  apply Int32.toInt_inj.mp
  rw [Int16.toInt_toInt32, i_rt (sm_in h_z)]
  exact Int16.toInt_ofInt_of_le (by omega) (by omega)
set_option maxHeartbeats 4000000 in
theorem st_aconst_null {lau : Launch} {G_z : Env0} {D_z : va_G} {dA : Nat → ClassId} {j_z nx pc len_z a_z b_z : Nat} {c_z : Int} {al_z st_z : List AV} {M_z : Mem} {Q_z : Option AV → Mem → Prop} (hc_z : chkI j_z .aconst_null pc len_z a_z b_z c_z nx = true) (hd_z : decode (mby j_z) pc = .ok (.aconst_null, len_z)) (h_z : stG lau G_z D_z dA j_z nx pc a_z b_z c_z al_z st_z M_z Q_z .aconst_null) : XS lau G_z D_z dA j_z pc al_z st_z M_z Q_z := by
  intro p_z e_z R_z s_z m_z args_z below_z meth_z c0_z H_z locs_z cells_z slots_z ls C0_z hR hS_z hL hst
  simp only [stG, wpi] at h_z
  simp only [chkI, Bool.and_eq_true, Nat.beq_eq, Nat.blt_eq, decide_eq_true_eq] at hc_z
  obtain ⟨rfl, rfl⟩ := hc_z
  exact lv_null C0_z.hex C0_z.hby hd_z (h_z p_z e_z R_z s_z m_z args_z below_z meth_z c0_z H_z locs_z cells_z slots_z ls C0_z hR hS_z hL (okc trivial hst))
set_option maxHeartbeats 4000000 in
theorem st_iconst {lau : Launch} {G_z : Env0} {D_z : va_G} {dA : Nat → ClassId} {j_z nx pc len_z a_z b_z : Nat} {c_z : Int} {al_z st_z : List AV} {M_z : Mem} {Q_z : Option AV → Mem → Prop} {z_z : Int} (hc_z : chkI j_z (.iconst z_z) pc len_z a_z b_z c_z nx = true) (hd_z : decode (mby j_z) pc = .ok ((.iconst z_z), len_z)) (h_z : stG lau G_z D_z dA j_z nx pc a_z b_z c_z al_z st_z M_z Q_z (.iconst z_z)) : XS lau G_z D_z dA j_z pc al_z st_z M_z Q_z := by
  intro p_z e_z R_z s_z m_z args_z below_z meth_z c0_z H_z locs_z cells_z slots_z ls C0_z hR hS_z hL hst
  simp only [stG, wpi] at h_z
  simp only [chkI, Bool.and_eq_true, Nat.beq_eq, Nat.blt_eq, decide_eq_true_eq] at hc_z
  obtain ⟨⟨rfl, rfl⟩, hz⟩ := hc_z
  exact lv_iconst C0_z.hex C0_z.hby hd_z rfl (h_z p_z e_z R_z s_z m_z args_z below_z meth_z c0_z H_z locs_z cells_z slots_z ls C0_z hR hS_z hL (okc (sm_in ⟨by omega, by omega⟩) hst))
set_option maxHeartbeats 4000000 in
theorem st_bipush {lau : Launch} {G_z : Env0} {D_z : va_G} {dA : Nat → ClassId} {j_z nx pc len_z a_z b_z : Nat} {c_z : Int} {al_z st_z : List AV} {M_z : Mem} {Q_z : Option AV → Mem → Prop} {z_z : Int} (hc_z : chkI j_z (.bipush z_z) pc len_z a_z b_z c_z nx = true) (hd_z : decode (mby j_z) pc = .ok ((.bipush z_z), len_z)) (h_z : stG lau G_z D_z dA j_z nx pc a_z b_z c_z al_z st_z M_z Q_z (.bipush z_z)) : XS lau G_z D_z dA j_z pc al_z st_z M_z Q_z := by
  intro p_z e_z R_z s_z m_z args_z below_z meth_z c0_z H_z locs_z cells_z slots_z ls C0_z hR hS_z hL hst
  simp only [stG, wpi] at h_z
  simp only [chkI, Bool.and_eq_true, Nat.beq_eq, Nat.blt_eq, decide_eq_true_eq] at hc_z
  obtain ⟨⟨rfl, rfl⟩, hz⟩ := hc_z
  exact lv_bipush C0_z.hex C0_z.hby hd_z (b8 hz) (h_z p_z e_z R_z s_z m_z args_z below_z meth_z c0_z H_z locs_z cells_z slots_z ls C0_z hR hS_z hL (okc (sm_in ⟨by omega, by omega⟩) hst))
set_option maxHeartbeats 4000000 in
theorem st_sipush {lau : Launch} {G_z : Env0} {D_z : va_G} {dA : Nat → ClassId} {j_z nx pc len_z a_z b_z : Nat} {c_z : Int} {al_z st_z : List AV} {M_z : Mem} {Q_z : Option AV → Mem → Prop} {z_z : Int} (hc_z : chkI j_z (.sipush z_z) pc len_z a_z b_z c_z nx = true) (hd_z : decode (mby j_z) pc = .ok ((.sipush z_z), len_z)) (h_z : stG lau G_z D_z dA j_z nx pc a_z b_z c_z al_z st_z M_z Q_z (.sipush z_z)) : XS lau G_z D_z dA j_z pc al_z st_z M_z Q_z := by
  intro p_z e_z R_z s_z m_z args_z below_z meth_z c0_z H_z locs_z cells_z slots_z ls C0_z hR hS_z hL hst
  simp only [stG, wpi] at h_z
  simp only [chkI, Bool.and_eq_true, Nat.beq_eq, Nat.blt_eq, decide_eq_true_eq] at hc_z
  obtain ⟨⟨rfl, rfl⟩, hz⟩ := hc_z
  exact lv_sipush C0_z.hex C0_z.hby hd_z (b16 hz) (h_z p_z e_z R_z s_z m_z args_z below_z meth_z c0_z H_z locs_z cells_z slots_z ls C0_z hR hS_z hL (okc (sm_in hz) hst))
set_option maxHeartbeats 4000000 in
theorem st_lconst {lau : Launch} {G_z : Env0} {D_z : va_G} {dA : Nat → ClassId} {j_z nx pc len_z a_z b_z : Nat} {c_z : Int} {al_z st_z : List AV} {M_z : Mem} {Q_z : Option AV → Mem → Prop} {k_z : Fin 2} (hc_z : chkI j_z (.lconst k_z) pc len_z a_z b_z c_z nx = true) (hd_z : decode (mby j_z) pc = .ok ((.lconst k_z), len_z)) (h_z : stG lau G_z D_z dA j_z nx pc a_z b_z c_z al_z st_z M_z Q_z (.lconst k_z)) : XS lau G_z D_z dA j_z pc al_z st_z M_z Q_z := by
  intro p_z e_z R_z s_z m_z args_z below_z meth_z c0_z H_z locs_z cells_z slots_z ls C0_z hR hS_z hL hst
  simp only [stG, wpi] at h_z
  simp only [chkI, Bool.and_eq_true, Nat.beq_eq, Nat.blt_eq, decide_eq_true_eq] at hc_z
  obtain ⟨rfl, rfl⟩ := hc_z
  have hk := k_z.isLt
  exact lv_lconst C0_z.hex C0_z.hby hd_z (by show Int64.ofNat k_z.val = Int64.ofInt (k_z.val : Int); rw [Int64.ofInt_eq_ofNat]) (h_z p_z e_z R_z s_z m_z args_z below_z meth_z c0_z H_z locs_z cells_z slots_z ls C0_z hR hS_z hL (okc ⟨by omega, by omega⟩ hst))
set_option maxHeartbeats 4000000 in
theorem st_ldc {lau : Launch} {G_z : Env0} {D_z : va_G} {dA : Nat → ClassId} {j_z nx pc len_z a_z b_z : Nat} {c_z : Int} {al_z st_z : List AV} {M_z : Mem} {Q_z : Option AV → Mem → Prop} {k_z : Nat} (hc_z : chkI j_z (.ldc k_z) pc len_z a_z b_z c_z nx = true) (hd_z : decode (mby j_z) pc = .ok ((.ldc k_z), len_z)) (h_z : stG lau G_z D_z dA j_z nx pc a_z b_z c_z al_z st_z M_z Q_z (.ldc k_z)) : XS lau G_z D_z dA j_z pc al_z st_z M_z Q_z := by
  intro p_z e_z R_z s_z m_z args_z below_z meth_z c0_z H_z locs_z cells_z slots_z ls C0_z hR hS_z hL hst
  simp only [stG, wpi] at h_z
  simp only [chkI, Bool.and_eq_true, Nat.beq_eq, Nat.blt_eq, decide_eq_true_eq] at hc_z
  obtain ⟨⟨rfl, rfl⟩, hk⟩ := hc_z
  have h1 := List.all_eq_true.mp cniL_ok _ (mem_ci hk)
  simp only [Bool.and_eq_true, decide_eq_true_eq] at h1
  exact lv_ldc C0_z.hex C0_z.hby C0_z.how (C0_z.hts _ h1.1) hd_z (h_z p_z e_z R_z s_z m_z args_z below_z meth_z c0_z H_z locs_z cells_z slots_z ls C0_z hR hS_z hL (okc ⟨by omega, by omega⟩ hst))
set_option maxHeartbeats 4000000 in
theorem st_ldc_w {lau : Launch} {G_z : Env0} {D_z : va_G} {dA : Nat → ClassId} {j_z nx pc len_z a_z b_z : Nat} {c_z : Int} {al_z st_z : List AV} {M_z : Mem} {Q_z : Option AV → Mem → Prop} {k_z : Nat} (hc_z : chkI j_z (.ldc_w k_z) pc len_z a_z b_z c_z nx = true) (hd_z : decode (mby j_z) pc = .ok ((.ldc_w k_z), len_z)) (h_z : stG lau G_z D_z dA j_z nx pc a_z b_z c_z al_z st_z M_z Q_z (.ldc_w k_z)) : XS lau G_z D_z dA j_z pc al_z st_z M_z Q_z := by
  intro p_z e_z R_z s_z m_z args_z below_z meth_z c0_z H_z locs_z cells_z slots_z ls C0_z hR hS_z hL hst
  simp only [stG, wpi] at h_z
  simp only [chkI, Bool.and_eq_true, Nat.beq_eq, Nat.blt_eq, decide_eq_true_eq] at hc_z
  obtain ⟨⟨rfl, rfl⟩, hk⟩ := hc_z
  have h1 := List.all_eq_true.mp cniL_ok _ (mem_ci hk)
  simp only [Bool.and_eq_true, decide_eq_true_eq] at h1
  exact lv_ldcw C0_z.hex C0_z.hby C0_z.how (C0_z.hts _ h1.1) hd_z (h_z p_z e_z R_z s_z m_z args_z below_z meth_z c0_z H_z locs_z cells_z slots_z ls C0_z hR hS_z hL (okc ⟨by omega, by omega⟩ hst))
set_option maxHeartbeats 4000000 in
theorem st_ldc2_w {lau : Launch} {G_z : Env0} {D_z : va_G} {dA : Nat → ClassId} {j_z nx pc len_z a_z b_z : Nat} {c_z : Int} {al_z st_z : List AV} {M_z : Mem} {Q_z : Option AV → Mem → Prop} {k_z : Nat} (hc_z : chkI j_z (.ldc2_w k_z) pc len_z a_z b_z c_z nx = true) (hd_z : decode (mby j_z) pc = .ok ((.ldc2_w k_z), len_z)) (h_z : stG lau G_z D_z dA j_z nx pc a_z b_z c_z al_z st_z M_z Q_z (.ldc2_w k_z)) : XS lau G_z D_z dA j_z pc al_z st_z M_z Q_z := by
  intro p_z e_z R_z s_z m_z args_z below_z meth_z c0_z H_z locs_z cells_z slots_z ls C0_z hR hS_z hL hst
  simp only [stG, wpi] at h_z
  simp only [chkI, Bool.and_eq_true, Nat.beq_eq, Nat.blt_eq, decide_eq_true_eq] at hc_z
  obtain ⟨⟨rfl, rfl⟩, hk⟩ := hc_z
  have h1 := List.all_eq_true.mp cnlL_ok _ (mem_ci hk)
  simp only [Bool.and_eq_true, decide_eq_true_eq] at h1
  exact lv_ldc2 C0_z.hex C0_z.hby C0_z.how (C0_z.hts _ h1.1) hd_z (h_z p_z e_z R_z s_z m_z args_z below_z meth_z c0_z H_z locs_z cells_z slots_z ls C0_z hR hS_z hL (okc ⟨by omega, by omega⟩ hst))
set_option maxHeartbeats 4000000 in
theorem st_iload_n {lau : Launch} {G_z : Env0} {D_z : va_G} {dA : Nat → ClassId} {j_z nx pc len_z a_z b_z : Nat} {c_z : Int} {al_z st_z : List AV} {M_z : Mem} {Q_z : Option AV → Mem → Prop} {k_z : Fin 4} (hc_z : chkI j_z (.iload_n k_z) pc len_z a_z b_z c_z nx = true) (hd_z : decode (mby j_z) pc = .ok ((.iload_n k_z), len_z)) (h_z : stG lau G_z D_z dA j_z nx pc a_z b_z c_z al_z st_z M_z Q_z (.iload_n k_z)) : XS lau G_z D_z dA j_z pc al_z st_z M_z Q_z := by
  intro p_z e_z R_z s_z m_z args_z below_z meth_z c0_z H_z locs_z cells_z slots_z ls C0_z hR hS_z hL hst
  simp only [stG, wpi] at h_z
  simp only [chkI, Bool.and_eq_true, Nat.beq_eq, Nat.blt_eq, decide_eq_true_eq] at hc_z
  obtain ⟨rfl, rfl⟩ := hc_z
  unfold ldI at h_z
  split at h_z
  · rename_i z_z e9_z
    obtain ⟨g1, g2⟩ := hL.get e9_z (fun q_z => by cases q_z)
    exact lv_iload_n C0_z.hex C0_z.hby hd_z rfl g2 (h_z p_z e_z R_z s_z m_z args_z below_z meth_z c0_z H_z locs_z cells_z slots_z ls C0_z hR hS_z hL (okc g1 hst))
  · exact h_z.elim
set_option maxHeartbeats 4000000 in
theorem st_iload {lau : Launch} {G_z : Env0} {D_z : va_G} {dA : Nat → ClassId} {j_z nx pc len_z a_z b_z : Nat} {c_z : Int} {al_z st_z : List AV} {M_z : Mem} {Q_z : Option AV → Mem → Prop} {k_z : Nat} (hc_z : chkI j_z (.iload k_z) pc len_z a_z b_z c_z nx = true) (hd_z : decode (mby j_z) pc = .ok ((.iload k_z), len_z)) (h_z : stG lau G_z D_z dA j_z nx pc a_z b_z c_z al_z st_z M_z Q_z (.iload k_z)) : XS lau G_z D_z dA j_z pc al_z st_z M_z Q_z := by
  intro p_z e_z R_z s_z m_z args_z below_z meth_z c0_z H_z locs_z cells_z slots_z ls C0_z hR hS_z hL hst
  simp only [stG, wpi] at h_z
  simp only [chkI, Bool.and_eq_true, Nat.beq_eq, Nat.blt_eq, decide_eq_true_eq] at hc_z
  obtain ⟨rfl, rfl⟩ := hc_z
  unfold ldI at h_z
  split at h_z
  · rename_i z_z e9_z
    obtain ⟨g1, g2⟩ := hL.get e9_z (fun q_z => by cases q_z)
    exact lv_iload C0_z.hex C0_z.hby hd_z g2 (h_z p_z e_z R_z s_z m_z args_z below_z meth_z c0_z H_z locs_z cells_z slots_z ls C0_z hR hS_z hL (okc g1 hst))
  · exact h_z.elim
set_option maxHeartbeats 4000000 in
theorem st_lload_n {lau : Launch} {G_z : Env0} {D_z : va_G} {dA : Nat → ClassId} {j_z nx pc len_z a_z b_z : Nat} {c_z : Int} {al_z st_z : List AV} {M_z : Mem} {Q_z : Option AV → Mem → Prop} {k_z : Fin 4} (hc_z : chkI j_z (.lload_n k_z) pc len_z a_z b_z c_z nx = true) (hd_z : decode (mby j_z) pc = .ok ((.lload_n k_z), len_z)) (h_z : stG lau G_z D_z dA j_z nx pc a_z b_z c_z al_z st_z M_z Q_z (.lload_n k_z)) : XS lau G_z D_z dA j_z pc al_z st_z M_z Q_z := by
  intro p_z e_z R_z s_z m_z args_z below_z meth_z c0_z H_z locs_z cells_z slots_z ls C0_z hR hS_z hL hst
  simp only [stG, wpi] at h_z
  simp only [chkI, Bool.and_eq_true, Nat.beq_eq, Nat.blt_eq, decide_eq_true_eq] at hc_z
  obtain ⟨rfl, rfl⟩ := hc_z
  unfold ldL at h_z
  split at h_z
  · rename_i z_z e9_z
    obtain ⟨g1, g2⟩ := hL.get e9_z (fun q_z => by cases q_z)
    exact lv_lload_n C0_z.hex C0_z.hby hd_z rfl g2 (h_z p_z e_z R_z s_z m_z args_z below_z meth_z c0_z H_z locs_z cells_z slots_z ls C0_z hR hS_z hL (okc g1 hst))
  · exact h_z.elim
set_option maxHeartbeats 4000000 in
theorem st_lload {lau : Launch} {G_z : Env0} {D_z : va_G} {dA : Nat → ClassId} {j_z nx pc len_z a_z b_z : Nat} {c_z : Int} {al_z st_z : List AV} {M_z : Mem} {Q_z : Option AV → Mem → Prop} {k_z : Nat} (hc_z : chkI j_z (.lload k_z) pc len_z a_z b_z c_z nx = true) (hd_z : decode (mby j_z) pc = .ok ((.lload k_z), len_z)) (h_z : stG lau G_z D_z dA j_z nx pc a_z b_z c_z al_z st_z M_z Q_z (.lload k_z)) : XS lau G_z D_z dA j_z pc al_z st_z M_z Q_z := by
  intro p_z e_z R_z s_z m_z args_z below_z meth_z c0_z H_z locs_z cells_z slots_z ls C0_z hR hS_z hL hst
  simp only [stG, wpi] at h_z
  simp only [chkI, Bool.and_eq_true, Nat.beq_eq, Nat.blt_eq, decide_eq_true_eq] at hc_z
  obtain ⟨rfl, rfl⟩ := hc_z
  unfold ldL at h_z
  split at h_z
  · rename_i z_z e9_z
    obtain ⟨g1, g2⟩ := hL.get e9_z (fun q_z => by cases q_z)
    exact lv_lload C0_z.hex C0_z.hby hd_z g2 (h_z p_z e_z R_z s_z m_z args_z below_z meth_z c0_z H_z locs_z cells_z slots_z ls C0_z hR hS_z hL (okc g1 hst))
  · exact h_z.elim
set_option maxHeartbeats 4000000 in
theorem st_aload_n {lau : Launch} {G_z : Env0} {D_z : va_G} {dA : Nat → ClassId} {j_z nx pc len_z a_z b_z : Nat} {c_z : Int} {al_z st_z : List AV} {M_z : Mem} {Q_z : Option AV → Mem → Prop} {k_z : Fin 4} (hc_z : chkI j_z (.aload_n k_z) pc len_z a_z b_z c_z nx = true) (hd_z : decode (mby j_z) pc = .ok ((.aload_n k_z), len_z)) (h_z : stG lau G_z D_z dA j_z nx pc a_z b_z c_z al_z st_z M_z Q_z (.aload_n k_z)) : XS lau G_z D_z dA j_z pc al_z st_z M_z Q_z := by
  intro p_z e_z R_z s_z m_z args_z below_z meth_z c0_z H_z locs_z cells_z slots_z ls C0_z hR hS_z hL hst
  simp only [stG, wpi] at h_z
  simp only [chkI, Bool.and_eq_true, Nat.beq_eq, Nat.blt_eq, decide_eq_true_eq] at hc_z
  obtain ⟨rfl, rfl⟩ := hc_z
  unfold ldR at h_z
  split at h_z
  · rename_i z_z e9_z
    obtain ⟨g1, g2⟩ := hL.get e9_z (fun q_z => by cases q_z)
    cases z_z with
    | zero => exact lv_aload_nN C0_z.hex C0_z.hby hd_z rfl g2 (h_z p_z e_z R_z s_z m_z args_z below_z meth_z c0_z H_z locs_z cells_z slots_z ls C0_z hR hS_z hL (okc g1 hst))
    | succ z_z => exact lv_aload_n C0_z.hex C0_z.hby hd_z rfl g2 (h_z p_z e_z R_z s_z m_z args_z below_z meth_z c0_z H_z locs_z cells_z slots_z ls C0_z hR hS_z hL (okc g1 hst))
  · exact h_z.elim
set_option maxHeartbeats 4000000 in
theorem st_aload {lau : Launch} {G_z : Env0} {D_z : va_G} {dA : Nat → ClassId} {j_z nx pc len_z a_z b_z : Nat} {c_z : Int} {al_z st_z : List AV} {M_z : Mem} {Q_z : Option AV → Mem → Prop} {k_z : Nat} (hc_z : chkI j_z (.aload k_z) pc len_z a_z b_z c_z nx = true) (hd_z : decode (mby j_z) pc = .ok ((.aload k_z), len_z)) (h_z : stG lau G_z D_z dA j_z nx pc a_z b_z c_z al_z st_z M_z Q_z (.aload k_z)) : XS lau G_z D_z dA j_z pc al_z st_z M_z Q_z := by
  intro p_z e_z R_z s_z m_z args_z below_z meth_z c0_z H_z locs_z cells_z slots_z ls C0_z hR hS_z hL hst
  simp only [stG, wpi] at h_z
  simp only [chkI, Bool.and_eq_true, Nat.beq_eq, Nat.blt_eq, decide_eq_true_eq] at hc_z
  obtain ⟨rfl, rfl⟩ := hc_z
  unfold ldR at h_z
  split at h_z
  · rename_i z_z e9_z
    obtain ⟨g1, g2⟩ := hL.get e9_z (fun q_z => by cases q_z)
    cases z_z with
    | zero => exact lv_aloadN C0_z.hex C0_z.hby hd_z g2 (h_z p_z e_z R_z s_z m_z args_z below_z meth_z c0_z H_z locs_z cells_z slots_z ls C0_z hR hS_z hL (okc g1 hst))
    | succ z_z => exact lv_aload C0_z.hex C0_z.hby hd_z g2 (h_z p_z e_z R_z s_z m_z args_z below_z meth_z c0_z H_z locs_z cells_z slots_z ls C0_z hR hS_z hL (okc g1 hst))
  · exact h_z.elim
set_option maxHeartbeats 4000000 in
theorem st_istore_n {lau : Launch} {G_z : Env0} {D_z : va_G} {dA : Nat → ClassId} {j_z nx pc len_z a_z b_z : Nat} {c_z : Int} {al_z st_z : List AV} {M_z : Mem} {Q_z : Option AV → Mem → Prop} {k_z : Fin 4} (hc_z : chkI j_z (.istore_n k_z) pc len_z a_z b_z c_z nx = true) (hd_z : decode (mby j_z) pc = .ok ((.istore_n k_z), len_z)) (h_z : stG lau G_z D_z dA j_z nx pc a_z b_z c_z al_z st_z M_z Q_z (.istore_n k_z)) : XS lau G_z D_z dA j_z pc al_z st_z M_z Q_z := by
  intro p_z e_z R_z s_z m_z args_z below_z meth_z c0_z H_z locs_z cells_z slots_z ls C0_z hR hS_z hL hst
  simp only [stG, wpi] at h_z
  simp only [chkI, Bool.and_eq_true, Nat.beq_eq, Nat.blt_eq, decide_eq_true_eq] at hc_z
  obtain ⟨⟨rfl, rfl⟩, hk⟩ := hc_z
  split at h_z
  · rename_i z_z st2_z
    exact lv_istore_n C0_z.hex C0_z.hby hd_z rfl hL.has hk rfl (fun ls2 hl2 => h_z p_z e_z R_z s_z m_z args_z below_z meth_z c0_z H_z locs_z cells_z slots_z ls2 C0_z hR hS_z (hL.sto1 (ok1 hst) hl2) (okt hst))
  · exact h_z.elim
set_option maxHeartbeats 4000000 in
theorem st_istore {lau : Launch} {G_z : Env0} {D_z : va_G} {dA : Nat → ClassId} {j_z nx pc len_z a_z b_z : Nat} {c_z : Int} {al_z st_z : List AV} {M_z : Mem} {Q_z : Option AV → Mem → Prop} {k_z : Nat} (hc_z : chkI j_z (.istore k_z) pc len_z a_z b_z c_z nx = true) (hd_z : decode (mby j_z) pc = .ok ((.istore k_z), len_z)) (h_z : stG lau G_z D_z dA j_z nx pc a_z b_z c_z al_z st_z M_z Q_z (.istore k_z)) : XS lau G_z D_z dA j_z pc al_z st_z M_z Q_z := by
  intro p_z e_z R_z s_z m_z args_z below_z meth_z c0_z H_z locs_z cells_z slots_z ls C0_z hR hS_z hL hst
  simp only [stG, wpi] at h_z
  simp only [chkI, Bool.and_eq_true, Nat.beq_eq, Nat.blt_eq, decide_eq_true_eq] at hc_z
  obtain ⟨⟨rfl, rfl⟩, hk⟩ := hc_z
  split at h_z
  · rename_i z_z st2_z
    exact lv_istore C0_z.hex C0_z.hby hd_z hL.has hk rfl (fun ls2 hl2 => h_z p_z e_z R_z s_z m_z args_z below_z meth_z c0_z H_z locs_z cells_z slots_z ls2 C0_z hR hS_z (hL.sto1 (ok1 hst) hl2) (okt hst))
  · exact h_z.elim
set_option maxHeartbeats 4000000 in
theorem st_lstore_n {lau : Launch} {G_z : Env0} {D_z : va_G} {dA : Nat → ClassId} {j_z nx pc len_z a_z b_z : Nat} {c_z : Int} {al_z st_z : List AV} {M_z : Mem} {Q_z : Option AV → Mem → Prop} {k_z : Fin 4} (hc_z : chkI j_z (.lstore_n k_z) pc len_z a_z b_z c_z nx = true) (hd_z : decode (mby j_z) pc = .ok ((.lstore_n k_z), len_z)) (h_z : stG lau G_z D_z dA j_z nx pc a_z b_z c_z al_z st_z M_z Q_z (.lstore_n k_z)) : XS lau G_z D_z dA j_z pc al_z st_z M_z Q_z := by
  intro p_z e_z R_z s_z m_z args_z below_z meth_z c0_z H_z locs_z cells_z slots_z ls C0_z hR hS_z hL hst
  simp only [stG, wpi] at h_z
  simp only [chkI, Bool.and_eq_true, Nat.beq_eq, Nat.blt_eq, decide_eq_true_eq] at hc_z
  obtain ⟨⟨rfl, rfl⟩, hk⟩ := hc_z
  split at h_z
  · rename_i z_z st2_z
    exact lv_lstore_n C0_z.hex C0_z.hby hd_z rfl hL.has hk rfl (fun ls2 hl2 => h_z p_z e_z R_z s_z m_z args_z below_z meth_z c0_z H_z locs_z cells_z slots_z ls2 C0_z hR hS_z (hL.sto2 (ok1 hst) hl2) (okt hst))
  · exact h_z.elim
set_option maxHeartbeats 4000000 in
theorem st_lstore {lau : Launch} {G_z : Env0} {D_z : va_G} {dA : Nat → ClassId} {j_z nx pc len_z a_z b_z : Nat} {c_z : Int} {al_z st_z : List AV} {M_z : Mem} {Q_z : Option AV → Mem → Prop} {k_z : Nat} (hc_z : chkI j_z (.lstore k_z) pc len_z a_z b_z c_z nx = true) (hd_z : decode (mby j_z) pc = .ok ((.lstore k_z), len_z)) (h_z : stG lau G_z D_z dA j_z nx pc a_z b_z c_z al_z st_z M_z Q_z (.lstore k_z)) : XS lau G_z D_z dA j_z pc al_z st_z M_z Q_z := by
  intro p_z e_z R_z s_z m_z args_z below_z meth_z c0_z H_z locs_z cells_z slots_z ls C0_z hR hS_z hL hst
  simp only [stG, wpi] at h_z
  simp only [chkI, Bool.and_eq_true, Nat.beq_eq, Nat.blt_eq, decide_eq_true_eq] at hc_z
  obtain ⟨⟨rfl, rfl⟩, hk⟩ := hc_z
  split at h_z
  · rename_i z_z st2_z
    exact lv_lstore C0_z.hex C0_z.hby hd_z hL.has hk rfl (fun ls2 hl2 => h_z p_z e_z R_z s_z m_z args_z below_z meth_z c0_z H_z locs_z cells_z slots_z ls2 C0_z hR hS_z (hL.sto2 (ok1 hst) hl2) (okt hst))
  · exact h_z.elim
set_option maxHeartbeats 4000000 in
theorem st_astore_n {lau : Launch} {G_z : Env0} {D_z : va_G} {dA : Nat → ClassId} {j_z nx pc len_z a_z b_z : Nat} {c_z : Int} {al_z st_z : List AV} {M_z : Mem} {Q_z : Option AV → Mem → Prop} {k_z : Fin 4} (hc_z : chkI j_z (.astore_n k_z) pc len_z a_z b_z c_z nx = true) (hd_z : decode (mby j_z) pc = .ok ((.astore_n k_z), len_z)) (h_z : stG lau G_z D_z dA j_z nx pc a_z b_z c_z al_z st_z M_z Q_z (.astore_n k_z)) : XS lau G_z D_z dA j_z pc al_z st_z M_z Q_z := by
  intro p_z e_z R_z s_z m_z args_z below_z meth_z c0_z H_z locs_z cells_z slots_z ls C0_z hR hS_z hL hst
  simp only [stG, wpi] at h_z
  simp only [chkI, Bool.and_eq_true, Nat.beq_eq, Nat.blt_eq, decide_eq_true_eq] at hc_z
  obtain ⟨⟨rfl, rfl⟩, hk⟩ := hc_z
  split at h_z
  · rename_i z_z st2_z
    cases z_z with
    | zero => exact lv_astore_nN C0_z.hex C0_z.hby hd_z rfl hL.has hk rfl (fun ls2 hl2 => h_z p_z e_z R_z s_z m_z args_z below_z meth_z c0_z H_z locs_z cells_z slots_z ls2 C0_z hR hS_z (hL.sto1 (ok1 hst) hl2) (okt hst))
    | succ z_z => exact lv_astore_n C0_z.hex C0_z.hby hd_z rfl hL.has hk rfl (fun ls2 hl2 => h_z p_z e_z R_z s_z m_z args_z below_z meth_z c0_z H_z locs_z cells_z slots_z ls2 C0_z hR hS_z (hL.sto1 (ok1 hst) hl2) (okt hst))
  · exact h_z.elim
set_option maxHeartbeats 4000000 in
theorem st_astore {lau : Launch} {G_z : Env0} {D_z : va_G} {dA : Nat → ClassId} {j_z nx pc len_z a_z b_z : Nat} {c_z : Int} {al_z st_z : List AV} {M_z : Mem} {Q_z : Option AV → Mem → Prop} {k_z : Nat} (hc_z : chkI j_z (.astore k_z) pc len_z a_z b_z c_z nx = true) (hd_z : decode (mby j_z) pc = .ok ((.astore k_z), len_z)) (h_z : stG lau G_z D_z dA j_z nx pc a_z b_z c_z al_z st_z M_z Q_z (.astore k_z)) : XS lau G_z D_z dA j_z pc al_z st_z M_z Q_z := by
  intro p_z e_z R_z s_z m_z args_z below_z meth_z c0_z H_z locs_z cells_z slots_z ls C0_z hR hS_z hL hst
  simp only [stG, wpi] at h_z
  simp only [chkI, Bool.and_eq_true, Nat.beq_eq, Nat.blt_eq, decide_eq_true_eq] at hc_z
  obtain ⟨⟨rfl, rfl⟩, hk⟩ := hc_z
  split at h_z
  · rename_i z_z st2_z
    cases z_z with
    | zero => exact lv_astoreN C0_z.hex C0_z.hby hd_z hL.has hk rfl (fun ls2 hl2 => h_z p_z e_z R_z s_z m_z args_z below_z meth_z c0_z H_z locs_z cells_z slots_z ls2 C0_z hR hS_z (hL.sto1 (ok1 hst) hl2) (okt hst))
    | succ z_z => exact lv_astore C0_z.hex C0_z.hby hd_z hL.has hk rfl (fun ls2 hl2 => h_z p_z e_z R_z s_z m_z args_z below_z meth_z c0_z H_z locs_z cells_z slots_z ls2 C0_z hR hS_z (hL.sto1 (ok1 hst) hl2) (okt hst))
  · exact h_z.elim
set_option maxHeartbeats 4000000 in
theorem st_iinc {lau : Launch} {G_z : Env0} {D_z : va_G} {dA : Nat → ClassId} {j_z nx pc len_z a_z b_z : Nat} {c_z : Int} {al_z st_z : List AV} {M_z : Mem} {Q_z : Option AV → Mem → Prop} {k_z : Nat} {d_z : Int} (hc_z : chkI j_z (.iinc k_z d_z) pc len_z a_z b_z c_z nx = true) (hd_z : decode (mby j_z) pc = .ok ((.iinc k_z d_z), len_z)) (h_z : stG lau G_z D_z dA j_z nx pc a_z b_z c_z al_z st_z M_z Q_z (.iinc k_z d_z)) : XS lau G_z D_z dA j_z pc al_z st_z M_z Q_z := by
  intro p_z e_z R_z s_z m_z args_z below_z meth_z c0_z H_z locs_z cells_z slots_z ls C0_z hR hS_z hL hst
  simp only [stG, wpi] at h_z
  simp only [chkI, Bool.and_eq_true, Nat.beq_eq, Nat.blt_eq, decide_eq_true_eq] at hc_z
  obtain ⟨⟨rfl, rfl⟩, hk⟩ := hc_z
  split at h_z
  · rename_i z_z e9_z
    obtain ⟨g1, g2⟩ := hL.get e9_z (fun q_z => by cases q_z)
    have h5 := prs_of al_z 0 k_z _ e9_z (fun q_z => by cases q_z)
    rw [Nat.zero_add] at h5
    obtain ⟨i5_z, h6⟩ := List.getElem?_of_mem h5
    exact lv_iinc C0_z.hex C0_z.hby hd_z hL.has (k := i5_z) (v := Int32.ofInt (z_z + d_z)) h6 (i_add z_z d_z) hk rfl (fun ls2 hl2 => h_z.2 p_z e_z R_z s_z m_z args_z below_z meth_z c0_z H_z locs_z cells_z slots_z ls2 C0_z hR hS_z (hL.sto1 h_z.1 hl2) hst)
  · exact h_z.elim
set_option maxHeartbeats 4000000 in
theorem st_iadd {lau : Launch} {G_z : Env0} {D_z : va_G} {dA : Nat → ClassId} {j_z nx pc len_z a_z b_z : Nat} {c_z : Int} {al_z st_z : List AV} {M_z : Mem} {Q_z : Option AV → Mem → Prop} (hc_z : chkI j_z .iadd pc len_z a_z b_z c_z nx = true) (hd_z : decode (mby j_z) pc = .ok (.iadd, len_z)) (h_z : stG lau G_z D_z dA j_z nx pc a_z b_z c_z al_z st_z M_z Q_z .iadd) : XS lau G_z D_z dA j_z pc al_z st_z M_z Q_z := by
  intro p_z e_z R_z s_z m_z args_z below_z meth_z c0_z H_z locs_z cells_z slots_z ls C0_z hR hS_z hL hst
  simp only [stG, wpi] at h_z
  simp only [chkI, Bool.and_eq_true, Nat.beq_eq, Nat.blt_eq, decide_eq_true_eq] at hc_z
  obtain ⟨rfl, rfl⟩ := hc_z
  split at h_z
  · rename_i y_z x_z st2_z
    have hy := ok1 hst
    have hx := ok1 (okt hst)
    have ht := okt (okt hst)
    refine lv_iadd C0_z.hex C0_z.hby hd_z ?_
    rw [i_add]
    exact h_z.2 p_z e_z R_z s_z m_z args_z below_z meth_z c0_z H_z locs_z cells_z slots_z ls C0_z hR hS_z hL (okc h_z.1 ht)
  · exact h_z.elim
set_option maxHeartbeats 4000000 in
theorem st_isub {lau : Launch} {G_z : Env0} {D_z : va_G} {dA : Nat → ClassId} {j_z nx pc len_z a_z b_z : Nat} {c_z : Int} {al_z st_z : List AV} {M_z : Mem} {Q_z : Option AV → Mem → Prop} (hc_z : chkI j_z .isub pc len_z a_z b_z c_z nx = true) (hd_z : decode (mby j_z) pc = .ok (.isub, len_z)) (h_z : stG lau G_z D_z dA j_z nx pc a_z b_z c_z al_z st_z M_z Q_z .isub) : XS lau G_z D_z dA j_z pc al_z st_z M_z Q_z := by
  intro p_z e_z R_z s_z m_z args_z below_z meth_z c0_z H_z locs_z cells_z slots_z ls C0_z hR hS_z hL hst
  simp only [stG, wpi] at h_z
  simp only [chkI, Bool.and_eq_true, Nat.beq_eq, Nat.blt_eq, decide_eq_true_eq] at hc_z
  obtain ⟨rfl, rfl⟩ := hc_z
  split at h_z
  · rename_i y_z x_z st2_z
    have hy := ok1 hst
    have hx := ok1 (okt hst)
    have ht := okt (okt hst)
    refine lv_isub C0_z.hex C0_z.hby hd_z ?_
    rw [i_sub]
    exact h_z.2 p_z e_z R_z s_z m_z args_z below_z meth_z c0_z H_z locs_z cells_z slots_z ls C0_z hR hS_z hL (okc h_z.1 ht)
  · exact h_z.elim
set_option maxHeartbeats 4000000 in
theorem st_imul {lau : Launch} {G_z : Env0} {D_z : va_G} {dA : Nat → ClassId} {j_z nx pc len_z a_z b_z : Nat} {c_z : Int} {al_z st_z : List AV} {M_z : Mem} {Q_z : Option AV → Mem → Prop} (hc_z : chkI j_z .imul pc len_z a_z b_z c_z nx = true) (hd_z : decode (mby j_z) pc = .ok (.imul, len_z)) (h_z : stG lau G_z D_z dA j_z nx pc a_z b_z c_z al_z st_z M_z Q_z .imul) : XS lau G_z D_z dA j_z pc al_z st_z M_z Q_z := by
  intro p_z e_z R_z s_z m_z args_z below_z meth_z c0_z H_z locs_z cells_z slots_z ls C0_z hR hS_z hL hst
  simp only [stG, wpi] at h_z
  simp only [chkI, Bool.and_eq_true, Nat.beq_eq, Nat.blt_eq, decide_eq_true_eq] at hc_z
  obtain ⟨rfl, rfl⟩ := hc_z
  split at h_z
  · rename_i y_z x_z st2_z
    have hy := ok1 hst
    have hx := ok1 (okt hst)
    have ht := okt (okt hst)
    refine lv_imul C0_z.hex C0_z.hby hd_z ?_
    rw [i_mul]
    exact h_z.2 p_z e_z R_z s_z m_z args_z below_z meth_z c0_z H_z locs_z cells_z slots_z ls C0_z hR hS_z hL (okc h_z.1 ht)
  · exact h_z.elim
set_option maxHeartbeats 4000000 in
theorem st_idiv {lau : Launch} {G_z : Env0} {D_z : va_G} {dA : Nat → ClassId} {j_z nx pc len_z a_z b_z : Nat} {c_z : Int} {al_z st_z : List AV} {M_z : Mem} {Q_z : Option AV → Mem → Prop} (hc_z : chkI j_z .idiv pc len_z a_z b_z c_z nx = true) (hd_z : decode (mby j_z) pc = .ok (.idiv, len_z)) (h_z : stG lau G_z D_z dA j_z nx pc a_z b_z c_z al_z st_z M_z Q_z .idiv) : XS lau G_z D_z dA j_z pc al_z st_z M_z Q_z := by
  intro p_z e_z R_z s_z m_z args_z below_z meth_z c0_z H_z locs_z cells_z slots_z ls C0_z hR hS_z hL hst
  simp only [stG, wpi] at h_z
  simp only [chkI, Bool.and_eq_true, Nat.beq_eq, Nat.blt_eq, decide_eq_true_eq] at hc_z
  obtain ⟨rfl, rfl⟩ := hc_z
  split at h_z
  · rename_i y_z x_z st2_z
    have hy := ok1 hst
    have hx := ok1 (okt hst)
    have ht := okt (okt hst)
    refine lv_idiv C0_z.hex C0_z.hby hd_z (fun q_z => h_z.1 ((i_isz hy).mp q_z)) ?_
    rw [i_div hx hy h_z.2.1]
    exact h_z.2.2 p_z e_z R_z s_z m_z args_z below_z meth_z c0_z H_z locs_z cells_z slots_z ls C0_z hR hS_z hL (okc h_z.2.1 ht)
  · exact h_z.elim
set_option maxHeartbeats 4000000 in
theorem st_irem {lau : Launch} {G_z : Env0} {D_z : va_G} {dA : Nat → ClassId} {j_z nx pc len_z a_z b_z : Nat} {c_z : Int} {al_z st_z : List AV} {M_z : Mem} {Q_z : Option AV → Mem → Prop} (hc_z : chkI j_z .irem pc len_z a_z b_z c_z nx = true) (hd_z : decode (mby j_z) pc = .ok (.irem, len_z)) (h_z : stG lau G_z D_z dA j_z nx pc a_z b_z c_z al_z st_z M_z Q_z .irem) : XS lau G_z D_z dA j_z pc al_z st_z M_z Q_z := by
  intro p_z e_z R_z s_z m_z args_z below_z meth_z c0_z H_z locs_z cells_z slots_z ls C0_z hR hS_z hL hst
  simp only [stG, wpi] at h_z
  simp only [chkI, Bool.and_eq_true, Nat.beq_eq, Nat.blt_eq, decide_eq_true_eq] at hc_z
  obtain ⟨rfl, rfl⟩ := hc_z
  split at h_z
  · rename_i y_z x_z st2_z
    have hy := ok1 hst
    have hx := ok1 (okt hst)
    have ht := okt (okt hst)
    refine lv_irem C0_z.hex C0_z.hby hd_z (fun q_z => h_z.1 ((i_isz hy).mp q_z)) ?_
    rw [i_rem hx hy h_z.2.1]
    exact h_z.2.2 p_z e_z R_z s_z m_z args_z below_z meth_z c0_z H_z locs_z cells_z slots_z ls C0_z hR hS_z hL (okc (i_tmod hx hy) ht)
  · exact h_z.elim
set_option maxHeartbeats 4000000 in
theorem st_ineg {lau : Launch} {G_z : Env0} {D_z : va_G} {dA : Nat → ClassId} {j_z nx pc len_z a_z b_z : Nat} {c_z : Int} {al_z st_z : List AV} {M_z : Mem} {Q_z : Option AV → Mem → Prop} (hc_z : chkI j_z .ineg pc len_z a_z b_z c_z nx = true) (hd_z : decode (mby j_z) pc = .ok (.ineg, len_z)) (h_z : stG lau G_z D_z dA j_z nx pc a_z b_z c_z al_z st_z M_z Q_z .ineg) : XS lau G_z D_z dA j_z pc al_z st_z M_z Q_z := by
  intro p_z e_z R_z s_z m_z args_z below_z meth_z c0_z H_z locs_z cells_z slots_z ls C0_z hR hS_z hL hst
  simp only [stG, wpi] at h_z
  simp only [chkI, Bool.and_eq_true, Nat.beq_eq, Nat.blt_eq, decide_eq_true_eq] at hc_z
  obtain ⟨rfl, rfl⟩ := hc_z
  split at h_z
  · rename_i x_z st2_z
    refine lv_ineg C0_z.hex C0_z.hby hd_z ?_
    rw [i_neg]
    exact h_z.2 p_z e_z R_z s_z m_z args_z below_z meth_z c0_z H_z locs_z cells_z slots_z ls C0_z hR hS_z hL (okc h_z.1 (okt hst))
  · exact h_z.elim
set_option maxHeartbeats 4000000 in
theorem st_ladd {lau : Launch} {G_z : Env0} {D_z : va_G} {dA : Nat → ClassId} {j_z nx pc len_z a_z b_z : Nat} {c_z : Int} {al_z st_z : List AV} {M_z : Mem} {Q_z : Option AV → Mem → Prop} (hc_z : chkI j_z .ladd pc len_z a_z b_z c_z nx = true) (hd_z : decode (mby j_z) pc = .ok (.ladd, len_z)) (h_z : stG lau G_z D_z dA j_z nx pc a_z b_z c_z al_z st_z M_z Q_z .ladd) : XS lau G_z D_z dA j_z pc al_z st_z M_z Q_z := by
  intro p_z e_z R_z s_z m_z args_z below_z meth_z c0_z H_z locs_z cells_z slots_z ls C0_z hR hS_z hL hst
  simp only [stG, wpi] at h_z
  simp only [chkI, Bool.and_eq_true, Nat.beq_eq, Nat.blt_eq, decide_eq_true_eq] at hc_z
  obtain ⟨rfl, rfl⟩ := hc_z
  split at h_z
  · rename_i y_z x_z st2_z
    have hy := ok1 hst
    have hx := ok1 (okt hst)
    have ht := okt (okt hst)
    refine lv_ladd C0_z.hex C0_z.hby hd_z ?_
    rw [l_add]
    exact h_z.2 p_z e_z R_z s_z m_z args_z below_z meth_z c0_z H_z locs_z cells_z slots_z ls C0_z hR hS_z hL (okc h_z.1 ht)
  · exact h_z.elim
set_option maxHeartbeats 4000000 in
theorem st_lsub {lau : Launch} {G_z : Env0} {D_z : va_G} {dA : Nat → ClassId} {j_z nx pc len_z a_z b_z : Nat} {c_z : Int} {al_z st_z : List AV} {M_z : Mem} {Q_z : Option AV → Mem → Prop} (hc_z : chkI j_z .lsub pc len_z a_z b_z c_z nx = true) (hd_z : decode (mby j_z) pc = .ok (.lsub, len_z)) (h_z : stG lau G_z D_z dA j_z nx pc a_z b_z c_z al_z st_z M_z Q_z .lsub) : XS lau G_z D_z dA j_z pc al_z st_z M_z Q_z := by
  intro p_z e_z R_z s_z m_z args_z below_z meth_z c0_z H_z locs_z cells_z slots_z ls C0_z hR hS_z hL hst
  simp only [stG, wpi] at h_z
  simp only [chkI, Bool.and_eq_true, Nat.beq_eq, Nat.blt_eq, decide_eq_true_eq] at hc_z
  obtain ⟨rfl, rfl⟩ := hc_z
  split at h_z
  · rename_i y_z x_z st2_z
    have hy := ok1 hst
    have hx := ok1 (okt hst)
    have ht := okt (okt hst)
    refine lv_lsub C0_z.hex C0_z.hby hd_z ?_
    rw [l_sub]
    exact h_z.2 p_z e_z R_z s_z m_z args_z below_z meth_z c0_z H_z locs_z cells_z slots_z ls C0_z hR hS_z hL (okc h_z.1 ht)
  · exact h_z.elim
set_option maxHeartbeats 4000000 in
theorem st_lmul {lau : Launch} {G_z : Env0} {D_z : va_G} {dA : Nat → ClassId} {j_z nx pc len_z a_z b_z : Nat} {c_z : Int} {al_z st_z : List AV} {M_z : Mem} {Q_z : Option AV → Mem → Prop} (hc_z : chkI j_z .lmul pc len_z a_z b_z c_z nx = true) (hd_z : decode (mby j_z) pc = .ok (.lmul, len_z)) (h_z : stG lau G_z D_z dA j_z nx pc a_z b_z c_z al_z st_z M_z Q_z .lmul) : XS lau G_z D_z dA j_z pc al_z st_z M_z Q_z := by
  intro p_z e_z R_z s_z m_z args_z below_z meth_z c0_z H_z locs_z cells_z slots_z ls C0_z hR hS_z hL hst
  simp only [stG, wpi] at h_z
  simp only [chkI, Bool.and_eq_true, Nat.beq_eq, Nat.blt_eq, decide_eq_true_eq] at hc_z
  obtain ⟨rfl, rfl⟩ := hc_z
  split at h_z
  · rename_i y_z x_z st2_z
    have hy := ok1 hst
    have hx := ok1 (okt hst)
    have ht := okt (okt hst)
    refine lv_lmul C0_z.hex C0_z.hby hd_z ?_
    rw [l_mul]
    exact h_z.2 p_z e_z R_z s_z m_z args_z below_z meth_z c0_z H_z locs_z cells_z slots_z ls C0_z hR hS_z hL (okc h_z.1 ht)
  · exact h_z.elim
set_option maxHeartbeats 4000000 in
theorem st_ldiv {lau : Launch} {G_z : Env0} {D_z : va_G} {dA : Nat → ClassId} {j_z nx pc len_z a_z b_z : Nat} {c_z : Int} {al_z st_z : List AV} {M_z : Mem} {Q_z : Option AV → Mem → Prop} (hc_z : chkI j_z .ldiv pc len_z a_z b_z c_z nx = true) (hd_z : decode (mby j_z) pc = .ok (.ldiv, len_z)) (h_z : stG lau G_z D_z dA j_z nx pc a_z b_z c_z al_z st_z M_z Q_z .ldiv) : XS lau G_z D_z dA j_z pc al_z st_z M_z Q_z := by
  intro p_z e_z R_z s_z m_z args_z below_z meth_z c0_z H_z locs_z cells_z slots_z ls C0_z hR hS_z hL hst
  simp only [stG, wpi] at h_z
  simp only [chkI, Bool.and_eq_true, Nat.beq_eq, Nat.blt_eq, decide_eq_true_eq] at hc_z
  obtain ⟨rfl, rfl⟩ := hc_z
  split at h_z
  · rename_i y_z x_z st2_z
    have hy := ok1 hst
    have hx := ok1 (okt hst)
    have ht := okt (okt hst)
    refine lv_ldiv C0_z.hex C0_z.hby hd_z (fun q_z => h_z.1 ((l_isz hy).mp q_z)) ?_
    rw [l_div hx hy h_z.2.1]
    exact h_z.2.2 p_z e_z R_z s_z m_z args_z below_z meth_z c0_z H_z locs_z cells_z slots_z ls C0_z hR hS_z hL (okc h_z.2.1 ht)
  · exact h_z.elim
set_option maxHeartbeats 4000000 in
theorem st_lrem {lau : Launch} {G_z : Env0} {D_z : va_G} {dA : Nat → ClassId} {j_z nx pc len_z a_z b_z : Nat} {c_z : Int} {al_z st_z : List AV} {M_z : Mem} {Q_z : Option AV → Mem → Prop} (hc_z : chkI j_z .lrem pc len_z a_z b_z c_z nx = true) (hd_z : decode (mby j_z) pc = .ok (.lrem, len_z)) (h_z : stG lau G_z D_z dA j_z nx pc a_z b_z c_z al_z st_z M_z Q_z .lrem) : XS lau G_z D_z dA j_z pc al_z st_z M_z Q_z := by
  intro p_z e_z R_z s_z m_z args_z below_z meth_z c0_z H_z locs_z cells_z slots_z ls C0_z hR hS_z hL hst
  simp only [stG, wpi] at h_z
  simp only [chkI, Bool.and_eq_true, Nat.beq_eq, Nat.blt_eq, decide_eq_true_eq] at hc_z
  obtain ⟨rfl, rfl⟩ := hc_z
  split at h_z
  · rename_i y_z x_z st2_z
    have hy := ok1 hst
    have hx := ok1 (okt hst)
    have ht := okt (okt hst)
    refine lv_lrem C0_z.hex C0_z.hby hd_z (fun q_z => h_z.1 ((l_isz hy).mp q_z)) ?_
    rw [l_rem hx hy h_z.2.1]
    exact h_z.2.2 p_z e_z R_z s_z m_z args_z below_z meth_z c0_z H_z locs_z cells_z slots_z ls C0_z hR hS_z hL (okc (l_tmod hx hy) ht)
  · exact h_z.elim
set_option maxHeartbeats 4000000 in
theorem st_lneg {lau : Launch} {G_z : Env0} {D_z : va_G} {dA : Nat → ClassId} {j_z nx pc len_z a_z b_z : Nat} {c_z : Int} {al_z st_z : List AV} {M_z : Mem} {Q_z : Option AV → Mem → Prop} (hc_z : chkI j_z .lneg pc len_z a_z b_z c_z nx = true) (hd_z : decode (mby j_z) pc = .ok (.lneg, len_z)) (h_z : stG lau G_z D_z dA j_z nx pc a_z b_z c_z al_z st_z M_z Q_z .lneg) : XS lau G_z D_z dA j_z pc al_z st_z M_z Q_z := by
  intro p_z e_z R_z s_z m_z args_z below_z meth_z c0_z H_z locs_z cells_z slots_z ls C0_z hR hS_z hL hst
  simp only [stG, wpi] at h_z
  simp only [chkI, Bool.and_eq_true, Nat.beq_eq, Nat.blt_eq, decide_eq_true_eq] at hc_z
  obtain ⟨rfl, rfl⟩ := hc_z
  split at h_z
  · rename_i x_z st2_z
    refine lv_lneg C0_z.hex C0_z.hby hd_z ?_
    rw [l_neg]
    exact h_z.2 p_z e_z R_z s_z m_z args_z below_z meth_z c0_z H_z locs_z cells_z slots_z ls C0_z hR hS_z hL (okc h_z.1 (okt hst))
  · exact h_z.elim
set_option maxHeartbeats 4000000 in
theorem st_iand {lau : Launch} {G_z : Env0} {D_z : va_G} {dA : Nat → ClassId} {j_z nx pc len_z a_z b_z : Nat} {c_z : Int} {al_z st_z : List AV} {M_z : Mem} {Q_z : Option AV → Mem → Prop} (hc_z : chkI j_z .iand pc len_z a_z b_z c_z nx = true) (hd_z : decode (mby j_z) pc = .ok (.iand, len_z)) (h_z : stG lau G_z D_z dA j_z nx pc a_z b_z c_z al_z st_z M_z Q_z .iand) : XS lau G_z D_z dA j_z pc al_z st_z M_z Q_z := by
  intro p_z e_z R_z s_z m_z args_z below_z meth_z c0_z H_z locs_z cells_z slots_z ls C0_z hR hS_z hL hst
  simp only [stG, wpi] at h_z
  simp only [chkI, Bool.and_eq_true, Nat.beq_eq, Nat.blt_eq, decide_eq_true_eq] at hc_z
  obtain ⟨rfl, rfl⟩ := hc_z
  split at h_z
  · rename_i y_z x_z st2_z
    have hy := ok1 hst
    have hx := ok1 (okt hst)
    have ht := okt (okt hst)
    refine lv_iand C0_z.hex C0_z.hby hd_z ?_
    rw [← i_of (Int32.ofInt x_z &&& Int32.ofInt y_z)]
    exact h_z p_z e_z R_z s_z m_z args_z below_z meth_z c0_z H_z locs_z cells_z slots_z ls C0_z hR hS_z hL (okc (i_in _) ht)
  · exact h_z.elim
set_option maxHeartbeats 4000000 in
theorem st_ishr {lau : Launch} {G_z : Env0} {D_z : va_G} {dA : Nat → ClassId} {j_z nx pc len_z a_z b_z : Nat} {c_z : Int} {al_z st_z : List AV} {M_z : Mem} {Q_z : Option AV → Mem → Prop} (hc_z : chkI j_z .ishr pc len_z a_z b_z c_z nx = true) (hd_z : decode (mby j_z) pc = .ok (.ishr, len_z)) (h_z : stG lau G_z D_z dA j_z nx pc a_z b_z c_z al_z st_z M_z Q_z .ishr) : XS lau G_z D_z dA j_z pc al_z st_z M_z Q_z := by
  intro p_z e_z R_z s_z m_z args_z below_z meth_z c0_z H_z locs_z cells_z slots_z ls C0_z hR hS_z hL hst
  simp only [stG, wpi] at h_z
  simp only [chkI, Bool.and_eq_true, Nat.beq_eq, Nat.blt_eq, decide_eq_true_eq] at hc_z
  obtain ⟨rfl, rfl⟩ := hc_z
  split at h_z
  · rename_i y_z x_z st2_z
    have hy := ok1 hst
    have hx := ok1 (okt hst)
    have ht := okt (okt hst)
    refine lv_ishr C0_z.hex C0_z.hby hd_z ?_
    rw [← i_of (Int32.ofInt x_z >>> (Int32.ofInt y_z &&& 31))]
    exact h_z p_z e_z R_z s_z m_z args_z below_z meth_z c0_z H_z locs_z cells_z slots_z ls C0_z hR hS_z hL (okc (i_in _) ht)
  · exact h_z.elim
set_option maxHeartbeats 4000000 in
theorem st_lor {lau : Launch} {G_z : Env0} {D_z : va_G} {dA : Nat → ClassId} {j_z nx pc len_z a_z b_z : Nat} {c_z : Int} {al_z st_z : List AV} {M_z : Mem} {Q_z : Option AV → Mem → Prop} (hc_z : chkI j_z .lor pc len_z a_z b_z c_z nx = true) (hd_z : decode (mby j_z) pc = .ok (.lor, len_z)) (h_z : stG lau G_z D_z dA j_z nx pc a_z b_z c_z al_z st_z M_z Q_z .lor) : XS lau G_z D_z dA j_z pc al_z st_z M_z Q_z := by
  intro p_z e_z R_z s_z m_z args_z below_z meth_z c0_z H_z locs_z cells_z slots_z ls C0_z hR hS_z hL hst
  simp only [stG, wpi] at h_z
  simp only [chkI, Bool.and_eq_true, Nat.beq_eq, Nat.blt_eq, decide_eq_true_eq] at hc_z
  obtain ⟨rfl, rfl⟩ := hc_z
  split at h_z
  · rename_i y_z x_z st2_z
    have hy := ok1 hst
    have hx := ok1 (okt hst)
    have ht := okt (okt hst)
    refine lv_lor C0_z.hex C0_z.hby hd_z ?_
    rw [← l_of (Int64.ofInt x_z ||| Int64.ofInt y_z)]
    exact h_z p_z e_z R_z s_z m_z args_z below_z meth_z c0_z H_z locs_z cells_z slots_z ls C0_z hR hS_z hL (okc (l_in _) ht)
  · exact h_z.elim
set_option maxHeartbeats 4000000 in
theorem st_lxor {lau : Launch} {G_z : Env0} {D_z : va_G} {dA : Nat → ClassId} {j_z nx pc len_z a_z b_z : Nat} {c_z : Int} {al_z st_z : List AV} {M_z : Mem} {Q_z : Option AV → Mem → Prop} (hc_z : chkI j_z .lxor pc len_z a_z b_z c_z nx = true) (hd_z : decode (mby j_z) pc = .ok (.lxor, len_z)) (h_z : stG lau G_z D_z dA j_z nx pc a_z b_z c_z al_z st_z M_z Q_z .lxor) : XS lau G_z D_z dA j_z pc al_z st_z M_z Q_z := by
  intro p_z e_z R_z s_z m_z args_z below_z meth_z c0_z H_z locs_z cells_z slots_z ls C0_z hR hS_z hL hst
  simp only [stG, wpi] at h_z
  simp only [chkI, Bool.and_eq_true, Nat.beq_eq, Nat.blt_eq, decide_eq_true_eq] at hc_z
  obtain ⟨rfl, rfl⟩ := hc_z
  split at h_z
  · rename_i y_z x_z st2_z
    have hy := ok1 hst
    have hx := ok1 (okt hst)
    have ht := okt (okt hst)
    refine lv_lxor C0_z.hex C0_z.hby hd_z ?_
    rw [← l_of (Int64.ofInt x_z ^^^ Int64.ofInt y_z)]
    exact h_z p_z e_z R_z s_z m_z args_z below_z meth_z c0_z H_z locs_z cells_z slots_z ls C0_z hR hS_z hL (okc (l_in _) ht)
  · exact h_z.elim
set_option maxHeartbeats 4000000 in
theorem st_lshl {lau : Launch} {G_z : Env0} {D_z : va_G} {dA : Nat → ClassId} {j_z nx pc len_z a_z b_z : Nat} {c_z : Int} {al_z st_z : List AV} {M_z : Mem} {Q_z : Option AV → Mem → Prop} (hc_z : chkI j_z .lshl pc len_z a_z b_z c_z nx = true) (hd_z : decode (mby j_z) pc = .ok (.lshl, len_z)) (h_z : stG lau G_z D_z dA j_z nx pc a_z b_z c_z al_z st_z M_z Q_z .lshl) : XS lau G_z D_z dA j_z pc al_z st_z M_z Q_z := by
  intro p_z e_z R_z s_z m_z args_z below_z meth_z c0_z H_z locs_z cells_z slots_z ls C0_z hR hS_z hL hst
  simp only [stG, wpi] at h_z
  simp only [chkI, Bool.and_eq_true, Nat.beq_eq, Nat.blt_eq, decide_eq_true_eq] at hc_z
  obtain ⟨rfl, rfl⟩ := hc_z
  split at h_z
  · rename_i y_z x_z st2_z
    have hy := ok1 hst
    have hx := ok1 (okt hst)
    have ht := okt (okt hst)
    exact lv_lshl C0_z.hex C0_z.hby hd_z (l_of (Int64.ofInt x_z <<< ((Int32.ofInt y_z).toInt64 &&& 63))).symm (h_z p_z e_z R_z s_z m_z args_z below_z meth_z c0_z H_z locs_z cells_z slots_z ls C0_z hR hS_z hL (okc (l_in _) ht))
  · exact h_z.elim
set_option maxHeartbeats 4000000 in
theorem st_lshr {lau : Launch} {G_z : Env0} {D_z : va_G} {dA : Nat → ClassId} {j_z nx pc len_z a_z b_z : Nat} {c_z : Int} {al_z st_z : List AV} {M_z : Mem} {Q_z : Option AV → Mem → Prop} (hc_z : chkI j_z .lshr pc len_z a_z b_z c_z nx = true) (hd_z : decode (mby j_z) pc = .ok (.lshr, len_z)) (h_z : stG lau G_z D_z dA j_z nx pc a_z b_z c_z al_z st_z M_z Q_z .lshr) : XS lau G_z D_z dA j_z pc al_z st_z M_z Q_z := by
  intro p_z e_z R_z s_z m_z args_z below_z meth_z c0_z H_z locs_z cells_z slots_z ls C0_z hR hS_z hL hst
  simp only [stG, wpi] at h_z
  simp only [chkI, Bool.and_eq_true, Nat.beq_eq, Nat.blt_eq, decide_eq_true_eq] at hc_z
  obtain ⟨rfl, rfl⟩ := hc_z
  split at h_z
  · rename_i y_z x_z st2_z
    have hy := ok1 hst
    have hx := ok1 (okt hst)
    have ht := okt (okt hst)
    exact lv_lshr C0_z.hex C0_z.hby hd_z (l_of (Int64.ofInt x_z >>> ((Int32.ofInt y_z).toInt64 &&& 63))).symm (h_z p_z e_z R_z s_z m_z args_z below_z meth_z c0_z H_z locs_z cells_z slots_z ls C0_z hR hS_z hL (okc (l_in _) ht))
  · exact h_z.elim
set_option maxHeartbeats 4000000 in
theorem st_lcmp {lau : Launch} {G_z : Env0} {D_z : va_G} {dA : Nat → ClassId} {j_z nx pc len_z a_z b_z : Nat} {c_z : Int} {al_z st_z : List AV} {M_z : Mem} {Q_z : Option AV → Mem → Prop} (hc_z : chkI j_z .lcmp pc len_z a_z b_z c_z nx = true) (hd_z : decode (mby j_z) pc = .ok (.lcmp, len_z)) (h_z : stG lau G_z D_z dA j_z nx pc a_z b_z c_z al_z st_z M_z Q_z .lcmp) : XS lau G_z D_z dA j_z pc al_z st_z M_z Q_z := by
  intro p_z e_z R_z s_z m_z args_z below_z meth_z c0_z H_z locs_z cells_z slots_z ls C0_z hR hS_z hL hst
  simp only [stG, wpi] at h_z
  simp only [chkI, Bool.and_eq_true, Nat.beq_eq, Nat.blt_eq, decide_eq_true_eq] at hc_z
  obtain ⟨rfl, rfl⟩ := hc_z
  split at h_z
  · rename_i y_z x_z st2_z
    have hy := ok1 hst
    have hx := ok1 (okt hst)
    have ht := okt (okt hst)
    refine W.lcmp C0_z.hex C0_z.hby hd_z ?_
    rw [l_cmp hx hy]
    exact h_z p_z e_z R_z s_z m_z args_z below_z meth_z c0_z H_z locs_z cells_z slots_z ls C0_z hR hS_z hL (okc (zCmp_in _ _) ht)
  · exact h_z.elim
set_option maxHeartbeats 4000000 in
theorem st_i2c {lau : Launch} {G_z : Env0} {D_z : va_G} {dA : Nat → ClassId} {j_z nx pc len_z a_z b_z : Nat} {c_z : Int} {al_z st_z : List AV} {M_z : Mem} {Q_z : Option AV → Mem → Prop} (hc_z : chkI j_z .i2c pc len_z a_z b_z c_z nx = true) (hd_z : decode (mby j_z) pc = .ok (.i2c, len_z)) (h_z : stG lau G_z D_z dA j_z nx pc a_z b_z c_z al_z st_z M_z Q_z .i2c) : XS lau G_z D_z dA j_z pc al_z st_z M_z Q_z := by
  intro p_z e_z R_z s_z m_z args_z below_z meth_z c0_z H_z locs_z cells_z slots_z ls C0_z hR hS_z hL hst
  simp only [stG, wpi] at h_z
  simp only [chkI, Bool.and_eq_true, Nat.beq_eq, Nat.blt_eq, decide_eq_true_eq] at hc_z
  obtain ⟨rfl, rfl⟩ := hc_z
  split at h_z
  · rename_i x_z st2_z
    have hx := ok1 hst
    have ht := okt hst
    exact lv_i2c C0_z.hex C0_z.hby hd_z (i_of _).symm (h_z p_z e_z R_z s_z m_z args_z below_z meth_z c0_z H_z locs_z cells_z slots_z ls C0_z hR hS_z hL (okc (i_in _) ht))
  · exact h_z.elim
set_option maxHeartbeats 4000000 in
theorem st_i2l {lau : Launch} {G_z : Env0} {D_z : va_G} {dA : Nat → ClassId} {j_z nx pc len_z a_z b_z : Nat} {c_z : Int} {al_z st_z : List AV} {M_z : Mem} {Q_z : Option AV → Mem → Prop} (hc_z : chkI j_z .i2l pc len_z a_z b_z c_z nx = true) (hd_z : decode (mby j_z) pc = .ok (.i2l, len_z)) (h_z : stG lau G_z D_z dA j_z nx pc a_z b_z c_z al_z st_z M_z Q_z .i2l) : XS lau G_z D_z dA j_z pc al_z st_z M_z Q_z := by
  intro p_z e_z R_z s_z m_z args_z below_z meth_z c0_z H_z locs_z cells_z slots_z ls C0_z hR hS_z hL hst
  simp only [stG, wpi] at h_z
  simp only [chkI, Bool.and_eq_true, Nat.beq_eq, Nat.blt_eq, decide_eq_true_eq] at hc_z
  obtain ⟨rfl, rfl⟩ := hc_z
  split at h_z
  · rename_i x_z st2_z
    have hx := ok1 hst
    have ht := okt hst
    exact lv_i2l C0_z.hex C0_z.hby hd_z (i_l hx) (h_z p_z e_z R_z s_z m_z args_z below_z meth_z c0_z H_z locs_z cells_z slots_z ls C0_z hR hS_z hL (okc (i_inL hx) ht))
  · exact h_z.elim
set_option maxHeartbeats 4000000 in
theorem st_l2i {lau : Launch} {G_z : Env0} {D_z : va_G} {dA : Nat → ClassId} {j_z nx pc len_z a_z b_z : Nat} {c_z : Int} {al_z st_z : List AV} {M_z : Mem} {Q_z : Option AV → Mem → Prop} (hc_z : chkI j_z .l2i pc len_z a_z b_z c_z nx = true) (hd_z : decode (mby j_z) pc = .ok (.l2i, len_z)) (h_z : stG lau G_z D_z dA j_z nx pc a_z b_z c_z al_z st_z M_z Q_z .l2i) : XS lau G_z D_z dA j_z pc al_z st_z M_z Q_z := by
  intro p_z e_z R_z s_z m_z args_z below_z meth_z c0_z H_z locs_z cells_z slots_z ls C0_z hR hS_z hL hst
  simp only [stG, wpi] at h_z
  simp only [chkI, Bool.and_eq_true, Nat.beq_eq, Nat.blt_eq, decide_eq_true_eq] at hc_z
  obtain ⟨rfl, rfl⟩ := hc_z
  split at h_z
  · rename_i x_z st2_z
    have hx := ok1 hst
    have ht := okt hst
    exact lv_l2i C0_z.hex C0_z.hby hd_z (i_of _).symm (h_z p_z e_z R_z s_z m_z args_z below_z meth_z c0_z H_z locs_z cells_z slots_z ls C0_z hR hS_z hL (okc (i_in _) ht))
  · exact h_z.elim
set_option maxHeartbeats 4000000 in
theorem st_pop {lau : Launch} {G_z : Env0} {D_z : va_G} {dA : Nat → ClassId} {j_z nx pc len_z a_z b_z : Nat} {c_z : Int} {al_z st_z : List AV} {M_z : Mem} {Q_z : Option AV → Mem → Prop} (hc_z : chkI j_z .pop pc len_z a_z b_z c_z nx = true) (hd_z : decode (mby j_z) pc = .ok (.pop, len_z)) (h_z : stG lau G_z D_z dA j_z nx pc a_z b_z c_z al_z st_z M_z Q_z .pop) : XS lau G_z D_z dA j_z pc al_z st_z M_z Q_z := by
  intro p_z e_z R_z s_z m_z args_z below_z meth_z c0_z H_z locs_z cells_z slots_z ls C0_z hR hS_z hL hst
  simp only [stG, wpi] at h_z
  simp only [chkI, Bool.and_eq_true, Nat.beq_eq, Nat.blt_eq, decide_eq_true_eq] at hc_z
  obtain ⟨rfl, rfl⟩ := hc_z
  split at h_z
  · rename_i x_z st2_z
    have hx := ok1 hst
    have ht := okt hst
    exact lv_pop C0_z.hex C0_z.hby hd_z rfl (h_z p_z e_z R_z s_z m_z args_z below_z meth_z c0_z H_z locs_z cells_z slots_z ls C0_z hR hS_z hL ht)
  · exact h_z.elim
set_option maxHeartbeats 4000000 in
theorem st_dup {lau : Launch} {G_z : Env0} {D_z : va_G} {dA : Nat → ClassId} {j_z nx pc len_z a_z b_z : Nat} {c_z : Int} {al_z st_z : List AV} {M_z : Mem} {Q_z : Option AV → Mem → Prop} (hc_z : chkI j_z .dup pc len_z a_z b_z c_z nx = true) (hd_z : decode (mby j_z) pc = .ok (.dup, len_z)) (h_z : stG lau G_z D_z dA j_z nx pc a_z b_z c_z al_z st_z M_z Q_z .dup) : XS lau G_z D_z dA j_z pc al_z st_z M_z Q_z := by
  intro p_z e_z R_z s_z m_z args_z below_z meth_z c0_z H_z locs_z cells_z slots_z ls C0_z hR hS_z hL hst
  simp only [stG, wpi] at h_z
  simp only [chkI, Bool.and_eq_true, Nat.beq_eq, Nat.blt_eq, decide_eq_true_eq] at hc_z
  obtain ⟨rfl, rfl⟩ := hc_z
  split at h_z
  · exact lv_dup C0_z.hex C0_z.hby hd_z rfl (h_z p_z e_z R_z s_z m_z args_z below_z meth_z c0_z H_z locs_z cells_z slots_z ls C0_z hR hS_z hL (okc (ok1 hst) hst))
  · exact lv_dup C0_z.hex C0_z.hby hd_z (by rw [cv_cat]; rfl) (h_z p_z e_z R_z s_z m_z args_z below_z meth_z c0_z H_z locs_z cells_z slots_z ls C0_z hR hS_z hL (okc (ok1 hst) hst))
  · exact h_z.elim
set_option maxHeartbeats 4000000 in
theorem st_dup2 {lau : Launch} {G_z : Env0} {D_z : va_G} {dA : Nat → ClassId} {j_z nx pc len_z a_z b_z : Nat} {c_z : Int} {al_z st_z : List AV} {M_z : Mem} {Q_z : Option AV → Mem → Prop} (hc_z : chkI j_z .dup2 pc len_z a_z b_z c_z nx = true) (hd_z : decode (mby j_z) pc = .ok (.dup2, len_z)) (h_z : stG lau G_z D_z dA j_z nx pc a_z b_z c_z al_z st_z M_z Q_z .dup2) : XS lau G_z D_z dA j_z pc al_z st_z M_z Q_z := by
  intro p_z e_z R_z s_z m_z args_z below_z meth_z c0_z H_z locs_z cells_z slots_z ls C0_z hR hS_z hL hst
  simp only [stG, wpi] at h_z
  simp only [chkI, Bool.and_eq_true, Nat.beq_eq, Nat.blt_eq, decide_eq_true_eq] at hc_z
  obtain ⟨rfl, rfl⟩ := hc_z
  split at h_z
  · exact lv_dup2_11 C0_z.hex C0_z.hby hd_z rfl (by rw [cv_cat]; rfl) (h_z p_z e_z R_z s_z m_z args_z below_z meth_z c0_z H_z locs_z cells_z slots_z ls C0_z hR hS_z hL (okc (ok1 hst) (okc (ok1 (okt hst)) hst)))
  · exact h_z.elim
set_option maxHeartbeats 4000000 in
theorem st_ifCond {lau : Launch} {G_z : Env0} {D_z : va_G} {dA : Nat → ClassId} {j_z nx pc len_z a_z b_z : Nat} {c_z : Int} {al_z st_z : List AV} {M_z : Mem} {Q_z : Option AV → Mem → Prop} {k_z : ClassFile.Cond} {o : Int} (hc_z : chkI j_z (.ifCond k_z o) pc len_z a_z b_z c_z nx = true) (hd_z : decode (mby j_z) pc = .ok ((.ifCond k_z o), len_z)) (h_z : stG lau G_z D_z dA j_z nx pc a_z b_z c_z al_z st_z M_z Q_z (.ifCond k_z o)) : XS lau G_z D_z dA j_z pc al_z st_z M_z Q_z := by
  intro p_z e_z R_z s_z m_z args_z below_z meth_z c0_z H_z locs_z cells_z slots_z ls C0_z hR hS_z hL hst
  simp only [stG, wpi] at h_z
  simp only [chkI, Bool.and_eq_true, Nat.beq_eq, Nat.blt_eq, decide_eq_true_eq] at hc_z
  obtain ⟨⟨rfl, rfl⟩, ho⟩ := hc_z
  have hg := tg_ok ho
  split at h_z
  · rename_i x_z st2_z
    have hx := ok1 hst
    have ht := okt hst
    cases k_z with
    | eq => exact lv_if_eq C0_z.hex C0_z.hby hd_z hg (fun q_z => h_z.1 ((i_isz hx).mp q_z) p_z e_z R_z s_z m_z args_z below_z meth_z c0_z H_z locs_z cells_z slots_z ls C0_z hR hS_z hL ht) (fun q_z => h_z.2 (fun w_z => q_z ((i_isz hx).mpr w_z)) p_z e_z R_z s_z m_z args_z below_z meth_z c0_z H_z locs_z cells_z slots_z ls C0_z hR hS_z hL ht)
    | ne => exact lv_if_ne C0_z.hex C0_z.hby hd_z hg (fun q_z => h_z.1 ((not_congr (i_isz hx)).mp q_z) p_z e_z R_z s_z m_z args_z below_z meth_z c0_z H_z locs_z cells_z slots_z ls C0_z hR hS_z hL ht) (fun q_z => h_z.2 (fun w_z => w_z ((i_isz hx).mp q_z)) p_z e_z R_z s_z m_z args_z below_z meth_z c0_z H_z locs_z cells_z slots_z ls C0_z hR hS_z hL ht)
    | lt => exact lv_if_lt C0_z.hex C0_z.hby hd_z hg (fun q_z => h_z.1 ((i_lt hx i_z).mp q_z) p_z e_z R_z s_z m_z args_z below_z meth_z c0_z H_z locs_z cells_z slots_z ls C0_z hR hS_z hL ht) (fun q_z => h_z.2 (fun w_z => q_z ((i_lt hx i_z).mpr w_z)) p_z e_z R_z s_z m_z args_z below_z meth_z c0_z H_z locs_z cells_z slots_z ls C0_z hR hS_z hL ht)
    | ge => exact lv_if_ge C0_z.hex C0_z.hby hd_z hg (fun q_z => h_z.1 ((i_le i_z hx).mp q_z) p_z e_z R_z s_z m_z args_z below_z meth_z c0_z H_z locs_z cells_z slots_z ls C0_z hR hS_z hL ht) (fun q_z => h_z.2 (fun w_z => q_z ((i_le i_z hx).mpr w_z)) p_z e_z R_z s_z m_z args_z below_z meth_z c0_z H_z locs_z cells_z slots_z ls C0_z hR hS_z hL ht)
    | gt => exact lv_if_gt C0_z.hex C0_z.hby hd_z hg (fun q_z => h_z.1 ((i_lt i_z hx).mp q_z) p_z e_z R_z s_z m_z args_z below_z meth_z c0_z H_z locs_z cells_z slots_z ls C0_z hR hS_z hL ht) (fun q_z => h_z.2 (fun w_z => q_z ((i_lt i_z hx).mpr w_z)) p_z e_z R_z s_z m_z args_z below_z meth_z c0_z H_z locs_z cells_z slots_z ls C0_z hR hS_z hL ht)
    | le => exact lv_if_le C0_z.hex C0_z.hby hd_z hg (fun q_z => h_z.1 ((i_le hx i_z).mp q_z) p_z e_z R_z s_z m_z args_z below_z meth_z c0_z H_z locs_z cells_z slots_z ls C0_z hR hS_z hL ht) (fun q_z => h_z.2 (fun w_z => q_z ((i_le hx i_z).mpr w_z)) p_z e_z R_z s_z m_z args_z below_z meth_z c0_z H_z locs_z cells_z slots_z ls C0_z hR hS_z hL ht)
  · exact h_z.elim
set_option maxHeartbeats 4000000 in
theorem st_if_icmp {lau : Launch} {G_z : Env0} {D_z : va_G} {dA : Nat → ClassId} {j_z nx pc len_z a_z b_z : Nat} {c_z : Int} {al_z st_z : List AV} {M_z : Mem} {Q_z : Option AV → Mem → Prop} {k_z : ClassFile.Cond} {o : Int} (hc_z : chkI j_z (.if_icmp k_z o) pc len_z a_z b_z c_z nx = true) (hd_z : decode (mby j_z) pc = .ok ((.if_icmp k_z o), len_z)) (h_z : stG lau G_z D_z dA j_z nx pc a_z b_z c_z al_z st_z M_z Q_z (.if_icmp k_z o)) : XS lau G_z D_z dA j_z pc al_z st_z M_z Q_z := by
  intro p_z e_z R_z s_z m_z args_z below_z meth_z c0_z H_z locs_z cells_z slots_z ls C0_z hR hS_z hL hst
  simp only [stG, wpi] at h_z
  simp only [chkI, Bool.and_eq_true, Nat.beq_eq, Nat.blt_eq, decide_eq_true_eq] at hc_z
  obtain ⟨⟨rfl, rfl⟩, ho⟩ := hc_z
  have hg := tg_ok ho
  split at h_z
  · rename_i y_z x_z st2_z
    have hy := ok1 hst
    have hx := ok1 (okt hst)
    have ht := okt (okt hst)
    cases k_z with
    | eq => exact lv_icmp_eq C0_z.hex C0_z.hby hd_z hg (fun q_z => h_z.1 ((i_eq hx hy).mp q_z) p_z e_z R_z s_z m_z args_z below_z meth_z c0_z H_z locs_z cells_z slots_z ls C0_z hR hS_z hL ht) (fun q_z => h_z.2 (fun w_z => q_z ((i_eq hx hy).mpr w_z)) p_z e_z R_z s_z m_z args_z below_z meth_z c0_z H_z locs_z cells_z slots_z ls C0_z hR hS_z hL ht)
    | ne => exact lv_icmp_ne C0_z.hex C0_z.hby hd_z hg (fun q_z => h_z.1 ((not_congr (i_eq hx hy)).mp q_z) p_z e_z R_z s_z m_z args_z below_z meth_z c0_z H_z locs_z cells_z slots_z ls C0_z hR hS_z hL ht) (fun q_z => h_z.2 (fun w_z => w_z ((i_eq hx hy).mp q_z)) p_z e_z R_z s_z m_z args_z below_z meth_z c0_z H_z locs_z cells_z slots_z ls C0_z hR hS_z hL ht)
    | lt => exact lv_icmp_lt C0_z.hex C0_z.hby hd_z hg (fun q_z => h_z.1 ((i_lt hx hy).mp q_z) p_z e_z R_z s_z m_z args_z below_z meth_z c0_z H_z locs_z cells_z slots_z ls C0_z hR hS_z hL ht) (fun q_z => h_z.2 (fun w_z => q_z ((i_lt hx hy).mpr w_z)) p_z e_z R_z s_z m_z args_z below_z meth_z c0_z H_z locs_z cells_z slots_z ls C0_z hR hS_z hL ht)
    | ge => exact lv_icmp_ge C0_z.hex C0_z.hby hd_z hg (fun q_z => h_z.1 ((i_le hy hx).mp q_z) p_z e_z R_z s_z m_z args_z below_z meth_z c0_z H_z locs_z cells_z slots_z ls C0_z hR hS_z hL ht) (fun q_z => h_z.2 (fun w_z => q_z ((i_le hy hx).mpr w_z)) p_z e_z R_z s_z m_z args_z below_z meth_z c0_z H_z locs_z cells_z slots_z ls C0_z hR hS_z hL ht)
    | gt => exact lv_icmp_gt C0_z.hex C0_z.hby hd_z hg (fun q_z => h_z.1 ((i_lt hy hx).mp q_z) p_z e_z R_z s_z m_z args_z below_z meth_z c0_z H_z locs_z cells_z slots_z ls C0_z hR hS_z hL ht) (fun q_z => h_z.2 (fun w_z => q_z ((i_lt hy hx).mpr w_z)) p_z e_z R_z s_z m_z args_z below_z meth_z c0_z H_z locs_z cells_z slots_z ls C0_z hR hS_z hL ht)
    | le => exact lv_icmp_le C0_z.hex C0_z.hby hd_z hg (fun q_z => h_z.1 ((i_le hx hy).mp q_z) p_z e_z R_z s_z m_z args_z below_z meth_z c0_z H_z locs_z cells_z slots_z ls C0_z hR hS_z hL ht) (fun q_z => h_z.2 (fun w_z => q_z ((i_le hx hy).mpr w_z)) p_z e_z R_z s_z m_z args_z below_z meth_z c0_z H_z locs_z cells_z slots_z ls C0_z hR hS_z hL ht)
  · exact h_z.elim
set_option maxHeartbeats 4000000 in
theorem st_acmp_eq {lau : Launch} {G_z : Env0} {D_z : va_G} {dA : Nat → ClassId} {j_z nx pc len_z a_z b_z : Nat} {c_z : Int} {al_z st_z : List AV} {M_z : Mem} {Q_z : Option AV → Mem → Prop} {o : Int} (hc_z : chkI j_z (.if_acmp .eq o) pc len_z a_z b_z c_z nx = true) (hd_z : decode (mby j_z) pc = .ok ((.if_acmp .eq o), len_z)) (h_z : stG lau G_z D_z dA j_z nx pc a_z b_z c_z al_z st_z M_z Q_z (.if_acmp .eq o)) : XS lau G_z D_z dA j_z pc al_z st_z M_z Q_z := by
  intro p_z e_z R_z s_z m_z args_z below_z meth_z c0_z H_z locs_z cells_z slots_z ls C0_z hR hS_z hL hst
  simp only [stG, wpi] at h_z
  simp only [chkI, Bool.and_eq_true, Nat.beq_eq, Nat.blt_eq, decide_eq_true_eq] at hc_z
  obtain ⟨⟨rfl, rfl⟩, ho⟩ := hc_z
  have hg := tg_ok ho
  split at h_z
  · rename_i y_z x_z st2_z
    have ht := okt (okt hst)
    have k_z := lv_acmp_eq (rest := st2_z.map cv) (rx := ro x_z) (ry := ro y_z) (Q := MQ below_z (QcS G_z D_z dA Q_z) args_z s_z R_z.cells R_z.slots (aA G_z)) C0_z.hex C0_z.hby hd_z hg (fun q_z => h_z.1 (ro_inj.mp q_z) p_z e_z R_z s_z m_z args_z below_z meth_z c0_z H_z locs_z cells_z slots_z ls C0_z hR hS_z hL ht) (fun q_z => h_z.2 (fun w_z => q_z (ro_inj.mpr w_z)) p_z e_z R_z s_z m_z args_z below_z meth_z c0_z H_z locs_z cells_z slots_z ls C0_z hR hS_z hL ht)
    rw [← cv_r, ← cv_r] at k_z
    exact k_z
  · exact h_z.elim
set_option maxHeartbeats 4000000 in
theorem st_acmp_ne {lau : Launch} {G_z : Env0} {D_z : va_G} {dA : Nat → ClassId} {j_z nx pc len_z a_z b_z : Nat} {c_z : Int} {al_z st_z : List AV} {M_z : Mem} {Q_z : Option AV → Mem → Prop} {o : Int} (hc_z : chkI j_z (.if_acmp .ne o) pc len_z a_z b_z c_z nx = true) (hd_z : decode (mby j_z) pc = .ok ((.if_acmp .ne o), len_z)) (h_z : stG lau G_z D_z dA j_z nx pc a_z b_z c_z al_z st_z M_z Q_z (.if_acmp .ne o)) : XS lau G_z D_z dA j_z pc al_z st_z M_z Q_z := by
  intro p_z e_z R_z s_z m_z args_z below_z meth_z c0_z H_z locs_z cells_z slots_z ls C0_z hR hS_z hL hst
  simp only [stG, wpi] at h_z
  simp only [chkI, Bool.and_eq_true, Nat.beq_eq, Nat.blt_eq, decide_eq_true_eq] at hc_z
  obtain ⟨⟨rfl, rfl⟩, ho⟩ := hc_z
  have hg := tg_ok ho
  split at h_z
  · rename_i y_z x_z st2_z
    have ht := okt (okt hst)
    have k_z := lv_acmp_ne (rest := st2_z.map cv) (rx := ro x_z) (ry := ro y_z) (Q := MQ below_z (QcS G_z D_z dA Q_z) args_z s_z R_z.cells R_z.slots (aA G_z)) C0_z.hex C0_z.hby hd_z hg (fun q_z => h_z.1 (fun w_z => q_z (ro_inj.mpr w_z)) p_z e_z R_z s_z m_z args_z below_z meth_z c0_z H_z locs_z cells_z slots_z ls C0_z hR hS_z hL ht) (fun q_z => h_z.2 (ro_inj.mp q_z) p_z e_z R_z s_z m_z args_z below_z meth_z c0_z H_z locs_z cells_z slots_z ls C0_z hR hS_z hL ht)
    rw [← cv_r, ← cv_r] at k_z
    exact k_z
  · exact h_z.elim
set_option maxHeartbeats 4000000 in
theorem st_ifnull {lau : Launch} {G_z : Env0} {D_z : va_G} {dA : Nat → ClassId} {j_z nx pc len_z a_z b_z : Nat} {c_z : Int} {al_z st_z : List AV} {M_z : Mem} {Q_z : Option AV → Mem → Prop} {o : Int} (hc_z : chkI j_z (.ifnull o) pc len_z a_z b_z c_z nx = true) (hd_z : decode (mby j_z) pc = .ok ((.ifnull o), len_z)) (h_z : stG lau G_z D_z dA j_z nx pc a_z b_z c_z al_z st_z M_z Q_z (.ifnull o)) : XS lau G_z D_z dA j_z pc al_z st_z M_z Q_z := by
  intro p_z e_z R_z s_z m_z args_z below_z meth_z c0_z H_z locs_z cells_z slots_z ls C0_z hR hS_z hL hst
  simp only [stG, wpi] at h_z
  simp only [chkI, Bool.and_eq_true, Nat.beq_eq, Nat.blt_eq, decide_eq_true_eq] at hc_z
  obtain ⟨⟨rfl, rfl⟩, ho⟩ := hc_z
  have hg := tg_ok ho
  split at h_z
  · rename_i x_z st2_z
    cases x_z with
    | zero => exact lv_ifnullN C0_z.hex C0_z.hby hd_z hg (h_z.1 rfl p_z e_z R_z s_z m_z args_z below_z meth_z c0_z H_z locs_z cells_z slots_z ls C0_z hR hS_z hL (okt hst))
    | succ z_z => exact lv_ifnull C0_z.hex C0_z.hby hd_z (h_z.2 (Nat.succ_ne_zero z_z) p_z e_z R_z s_z m_z args_z below_z meth_z c0_z H_z locs_z cells_z slots_z ls C0_z hR hS_z hL (okt hst))
  · exact h_z.elim
set_option maxHeartbeats 4000000 in
theorem st_ifnonnull {lau : Launch} {G_z : Env0} {D_z : va_G} {dA : Nat → ClassId} {j_z nx pc len_z a_z b_z : Nat} {c_z : Int} {al_z st_z : List AV} {M_z : Mem} {Q_z : Option AV → Mem → Prop} {o : Int} (hc_z : chkI j_z (.ifnonnull o) pc len_z a_z b_z c_z nx = true) (hd_z : decode (mby j_z) pc = .ok ((.ifnonnull o), len_z)) (h_z : stG lau G_z D_z dA j_z nx pc a_z b_z c_z al_z st_z M_z Q_z (.ifnonnull o)) : XS lau G_z D_z dA j_z pc al_z st_z M_z Q_z := by
  intro p_z e_z R_z s_z m_z args_z below_z meth_z c0_z H_z locs_z cells_z slots_z ls C0_z hR hS_z hL hst
  simp only [stG, wpi] at h_z
  simp only [chkI, Bool.and_eq_true, Nat.beq_eq, Nat.blt_eq, decide_eq_true_eq] at hc_z
  obtain ⟨⟨rfl, rfl⟩, ho⟩ := hc_z
  have hg := tg_ok ho
  split at h_z
  · rename_i x_z st2_z
    cases x_z with
    | zero => exact lv_ifnonnullN C0_z.hex C0_z.hby hd_z (h_z.2 rfl p_z e_z R_z s_z m_z args_z below_z meth_z c0_z H_z locs_z cells_z slots_z ls C0_z hR hS_z hL (okt hst))
    | succ z_z => exact lv_ifnonnull C0_z.hex C0_z.hby hd_z hg (h_z.1 (Nat.succ_ne_zero z_z) p_z e_z R_z s_z m_z args_z below_z meth_z c0_z H_z locs_z cells_z slots_z ls C0_z hR hS_z hL (okt hst))
  · exact h_z.elim
set_option maxHeartbeats 4000000 in
theorem st_goto {lau : Launch} {G_z : Env0} {D_z : va_G} {dA : Nat → ClassId} {j_z nx pc len_z a_z b_z : Nat} {c_z : Int} {al_z st_z : List AV} {M_z : Mem} {Q_z : Option AV → Mem → Prop} {o : Int} (hc_z : chkI j_z (.goto o) pc len_z a_z b_z c_z nx = true) (hd_z : decode (mby j_z) pc = .ok ((.goto o), len_z)) (h_z : stG lau G_z D_z dA j_z nx pc a_z b_z c_z al_z st_z M_z Q_z (.goto o)) : XS lau G_z D_z dA j_z pc al_z st_z M_z Q_z := by
  intro p_z e_z R_z s_z m_z args_z below_z meth_z c0_z H_z locs_z cells_z slots_z ls C0_z hR hS_z hL hst
  simp only [stG, wpi] at h_z
  simp only [chkI, Bool.and_eq_true, Nat.beq_eq, Nat.blt_eq, decide_eq_true_eq] at hc_z
  obtain ⟨rfl, ho⟩ := hc_z
  exact lv_goto C0_z.hex C0_z.hby hd_z (tg_ok ho) (h_z p_z e_z R_z s_z m_z args_z below_z meth_z c0_z H_z locs_z cells_z slots_z ls C0_z hR hS_z hL hst)
theorem swT_at {K_z : Nat → Prop} {pc : Nat} {x_z : Int} : ∀ (os : List Int) (lo_z : Int), swT K_z pc x_z lo_z os → ∀ (i_z : Nat) (o : Int), os[i_z]? = some o → x_z = lo_z + i_z → K_z (tgt pc o)
  | [], _, _, i_z, o, h_z, _ => by simp at h_z
  | o0_z :: os, lo_z, hs, 0, o, h_z, hx => by
    rw [List.getElem?_cons_zero] at h_z
    cases h_z
    exact hs.1 (by omega)
  | o0_z :: os, lo_z, hs, i_z + 1, o, h_z, hx => by
    rw [List.getElem?_cons_succ] at h_z
    exact swT_at os (lo_z + 1) hs.2 i_z o h_z (by omega)
set_option maxHeartbeats 4000000 in
theorem st_tableswitch {lau : Launch} {G_z : Env0} {D_z : va_G} {dA : Nat → ClassId} {j_z nx pc len_z a_z b_z : Nat} {c_z : Int} {al_z st_z : List AV} {M_z : Mem} {Q_z : Option AV → Mem → Prop} {d_z lo_z hi_z : Int} {os : Array Int} (hc_z : chkI j_z (.tableswitch d_z lo_z hi_z os) pc len_z a_z b_z c_z nx = true) (hd_z : decode (mby j_z) pc = .ok ((.tableswitch d_z lo_z hi_z os), len_z)) (h_z : stG lau G_z D_z dA j_z nx pc a_z b_z c_z al_z st_z M_z Q_z (.tableswitch d_z lo_z hi_z os)) : XS lau G_z D_z dA j_z pc al_z st_z M_z Q_z := by
  intro p_z e_z R_z s_z m_z args_z below_z meth_z c0_z H_z locs_z cells_z slots_z ls C0_z hR hS_z hL hst
  simp only [stG, wpi] at h_z
  simp only [chkI, Bool.and_eq_true, decide_eq_true_eq] at hc_z
  obtain ⟨⟨h1, h2⟩, h3⟩ := hc_z
  split at h_z
  · rename_i x_z st2_z
    have hx := ok1 hst
    have ht := okt hst
    have ex_z := i_rt hx
    by_cases hlo : x_z < lo_z
    · exact lv_tableOut C0_z.hex C0_z.hby hd_z (Or.inl (by rw [ex_z]; exact hlo)) (tg_ok h1) (h_z.1 (Or.inl hlo) p_z e_z R_z s_z m_z args_z below_z meth_z c0_z H_z locs_z cells_z slots_z ls C0_z hR hS_z hL ht)
    · by_cases hhi : hi_z < x_z
      · exact lv_tableOut C0_z.hex C0_z.hby hd_z (Or.inr (by rw [ex_z]; exact hhi)) (tg_ok h1) (h_z.1 (Or.inr hhi) p_z e_z R_z s_z m_z args_z below_z meth_z c0_z H_z locs_z cells_z slots_z ls C0_z hR hS_z hL ht)
      · have hlt : (x_z - lo_z).toNat < os.toList.length := by omega
        have he : os.toList[(x_z - lo_z).toNat]? = some os.toList[(x_z - lo_z).toNat] := List.getElem?_eq_getElem hlt
        have hk := swT_at os.toList lo_z h_z.2 (x_z - lo_z).toNat _ he (by omega)
        have hg := tg_ok (List.all_eq_true.mp h2 _ (List.mem_of_getElem? he))
        exact lv_tableIn C0_z.hex C0_z.hby hd_z (by rw [ex_z]; exact hlo) (by rw [ex_z]; exact hhi) (by rw [ex_z, ← Array.getElem?_toList]; exact he) hg (hk p_z e_z R_z s_z m_z args_z below_z meth_z c0_z H_z locs_z cells_z slots_z ls C0_z hR hS_z hL ht)
  · exact h_z.elim
