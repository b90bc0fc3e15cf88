/-! THE SMALL MACHINE, part 6: one row of code, on both machines: the heap. Own work (written by a program of its own). -/
theorem swL_at {K_z : Nat → Prop} {pc : Nat} {x_z d_z : Int} : ∀ (ps_z : List (Int × Int)), swL K_z pc x_z d_z ps_z → K_z (tgt pc (Op.lookupswitch.offset ps_z d_z x_z))
  | [], h_z => h_z
  | (a0_z, o) :: ps_z, h_z => by
    rw [Op.lookupswitch.offset_cons]
    by_cases hx : a0_z = x_z
    · rw [if_pos hx]
      exact h_z.1 hx.symm
    · rw [if_neg hx]
      exact swL_at ps_z (h_z.2 (fun q_z => hx q_z.symm))
theorem swL_tg {pc : Nat} {x_z d_z : Int} : ∀ (ps_z : List (Int × Int)), tgOk pc d_z = true → ps_z.all (fun q_z => tgOk pc q_z.2) = true → tgOk pc (Op.lookupswitch.offset ps_z d_z x_z) = true
  | [], hd0, _ => hd0
  | (a0_z, o) :: ps_z, hd0, ha_z => by
    simp only [List.all_cons, Bool.and_eq_true] at ha_z
    rw [Op.lookupswitch.offset_cons]
    by_cases hx : a0_z = x_z
    · rw [if_pos hx]
      exact ha_z.1
    · rw [if_neg hx]
      exact swL_tg ps_z hd0 ha_z.2
set_option maxHeartbeats 4000000 in
theorem st_lookupswitch {lau : Launch} {G_z : Env0} {D_z : va_G} {dA : Nat → ClassId} {j_z nx pc len_z a_z b_z : Nat} {c_z : Int} {al_z st_z : List AV} {M_z : Mem} {Q_z : Option AV → Mem → Prop} {d_z : Int} {ps_z : Array (Int × Int)} (hc_z : chkI j_z (.lookupswitch d_z ps_z) pc len_z a_z b_z c_z nx = true) (hd_z : decode (mby j_z) pc = .ok ((.lookupswitch d_z ps_z), len_z)) (h_z : stG lau G_z D_z dA j_z nx pc a_z b_z c_z al_z st_z M_z Q_z (.lookupswitch d_z ps_z)) : XS lau G_z D_z dA j_z pc al_z st_z M_z Q_z := by
  intro p_z e_z R_z s_z m_z args_z below_z meth_z c0_z H_z locs_z cells_z slots_z ls C0_z hR hS_z hL hst
  simp only [stG, wpi] at h_z
  simp only [chkI, Bool.and_eq_true] at hc_z
  obtain ⟨⟨h1, h2⟩, h3⟩ := hc_z
  split at h_z
  · rename_i x_z st2_z
    have hx := ok1 hst
    have ht := okt hst
    have hk := swL_at ps_z.toList h_z
    exact lv_lookup C0_z.hex C0_z.hby hd_z h3 (by rw [i_rt hx]) (tg_ok (swL_tg ps_z.toList h1 h2)) (hk p_z e_z R_z s_z m_z args_z below_z meth_z c0_z H_z locs_z cells_z slots_z ls C0_z hR hS_z hL ht)
  · exact h_z.elim
theorem fld_ok {G_z : Env0} {D_z : va_G} {dA : Nat → ClassId} {s_z : State} {M_z : Mem} {H_z : Heap} (hR : RelM G_z D_z dA s_z M_z H_z) (b_z r_z : Nat) (k_z : Int) : okv (fld b_z M_z r_z k_z) := by
  unfold fld
  split
  · exact (hR.rng r_z k_z).2
  · trivial
  · exact (hR.rng r_z k_z).1
set_option maxHeartbeats 4000000 in
theorem st_getfield {lau : Launch} {G_z : Env0} {D_z : va_G} {dA : Nat → ClassId} {j_z nx pc len_z a_z b_z : Nat} {c_z : Int} {al_z st_z : List AV} {M_z : Mem} {Q_z : Option AV → Mem → Prop} {k_z : Nat} (hc_z : chkI j_z (.getfield k_z) pc len_z a_z b_z c_z nx = true) (hd_z : decode (mby j_z) pc = .ok ((.getfield k_z), len_z)) (h_z : stG lau G_z D_z dA j_z nx pc a_z b_z c_z al_z st_z M_z Q_z (.getfield k_z)) : XS lau G_z D_z dA j_z pc al_z st_z M_z Q_z := by
  intro p_z e_z R_z s_z m_z args_z below_z meth_z c0_z H_z locs_z cells_z slots_z ls C0_z hR hS_z hL hst
  simp only [stG, wpi] at h_z
  simp only [chkI, Bool.and_eq_true, Bool.or_eq_true, Nat.beq_eq, Nat.blt_eq, Nat.ble_eq, decide_eq_true_eq] at hc_z
  obtain ⟨⟨⟨rfl, rfl⟩, hcc⟩, hf⟩ := hc_z
  split at h_z
  · rename_i r_z st2_z
    have hq := h_z.2 p_z e_z R_z s_z m_z args_z below_z meth_z c0_z H_z locs_z cells_z slots_z ls C0_z hR hS_z hL (okc (fld_ok hR b_z r_z c_z) (okt hst))
    rw [hcc] at hq
    rcases hf with hf | hf
    · exact x_get C0_z hR (fldL_ok _ (mem_c5 hf)) h_z.1 hd_z hq
    · exact x_getO C0_z hR (List.all_eq_true.mp rofL_ok _ (mem_c5 hf)) h_z.1 hd_z hq
  · exact h_z.elim
set_option maxHeartbeats 4000000 in
theorem st_putfield {lau : Launch} {G_z : Env0} {D_z : va_G} {dA : Nat → ClassId} {j_z nx pc len_z a_z b_z : Nat} {c_z : Int} {al_z st_z : List AV} {M_z : Mem} {Q_z : Option AV → Mem → Prop} {k_z : Nat} (hc_z : chkI j_z (.putfield k_z) pc len_z a_z b_z c_z nx = true) (hd_z : decode (mby j_z) pc = .ok ((.putfield k_z), len_z)) (h_z : stG lau G_z D_z dA j_z nx pc a_z b_z c_z al_z st_z M_z Q_z (.putfield k_z)) : XS lau G_z D_z dA j_z pc al_z st_z M_z Q_z := by
  intro p_z e_z R_z s_z m_z args_z below_z meth_z c0_z H_z locs_z cells_z slots_z ls C0_z hR hS_z hL hst
  simp only [stG, wpi] at h_z
  simp only [chkI, Bool.and_eq_true, Bool.or_eq_true, Nat.beq_eq, Nat.blt_eq, Nat.ble_eq, decide_eq_true_eq] at hc_z
  obtain ⟨⟨⟨⟨rfl, rfl⟩, hcc⟩, hf⟩, hfin0⟩ := hc_z
  have hf2 := fldL_ok _ (mem_c5 hf)
  have hfin : (kT a_z c_z.toNat).2.2.2 = true → (mty j_z).name = "<init>" ∧ kR a_z = onm (mow j_z) := by
    intro q_z
    rcases hfin0 with w_z | w_z
    · rw [q_z] at w_z; exact absurd w_z (by decide)
    · exact w_z
  have ky : ktag (kT a_z c_z.toNat).2.2.1 = b_z := hf2.2.2.1
  have tagne : ∀ k2_z, k2_z < kN a_z → k2_z ≠ c_z.toNat → ((k2_z : Nat) : Int) ≠ c_z := fun k2_z _ hne q_z => hne (by omega)
  split at h_z
  · rename_i v_z r_z st2_z
    refine x_put (M' := uI M_z r_z c_z v_z) C0_z hR hS_z hf2 hfin h_z.1 (ok1 hst) (Or.inl ⟨rfl, v_z, rfl⟩) (fun q_z hq => agr_uI hq) rfl rfl rfl (fun q_z => ⟨?_, (hR.rng r_z q_z).2⟩) (fun k2_z hk2 => ?_) hd_z (fun H1_z locs1 q1_z q2_z => h_z.2 p_z e_z R_z s_z m_z args_z below_z meth_z c0_z H1_z locs1 cells_z slots_z ls C0_z q1_z q2_z hL (okt (okt hst)))
    · rw [gI_uI]; split
      · exact ok1 hst
      · exact (hR.rng r_z q_z).1
    · by_cases hk : k2_z = c_z.toNat
      · rw [if_pos hk, hk, ky]
        show a_i (gI (uI M_z r_z c_z v_z) r_z (c_z.toNat : Int)) = _
        rw [gI_uI, if_pos ⟨rfl, hcc.symm⟩]
      · rw [if_neg hk]
        unfold fld
        split
        · rfl
        · rfl
        · rw [gI_uI, if_neg (fun w_z => tagne k2_z hk2 hk w_z.2)]
  · rename_i v_z r_z st2_z
    refine x_put (M' := uL M_z r_z c_z v_z) C0_z hR hS_z hf2 hfin h_z.1 (ok1 hst) (Or.inr (Or.inl ⟨rfl, v_z, rfl⟩)) (fun q_z hq => agr_uL hq) rfl rfl rfl (fun q_z => ⟨(hR.rng r_z q_z).1, ?_⟩) (fun k2_z hk2 => ?_) hd_z (fun H1_z locs1 q1_z q2_z => h_z.2 p_z e_z R_z s_z m_z args_z below_z meth_z c0_z H1_z locs1 cells_z slots_z ls C0_z q1_z q2_z hL (okt (okt hst)))
    · rw [gL_uL]; split
      · exact ok1 hst
      · exact (hR.rng r_z q_z).2
    · by_cases hk : k2_z = c_z.toNat
      · rw [if_pos hk, hk, ky]
        show a_l (gL (uL M_z r_z c_z v_z) r_z (c_z.toNat : Int)) = _
        rw [gL_uL, if_pos ⟨rfl, hcc.symm⟩]
      · rw [if_neg hk]
        unfold fld
        split
        · rw [gL_uL, if_neg (fun w_z => tagne k2_z hk2 hk w_z.2)]
        · rfl
        · rfl
  · rename_i v_z r_z st2_z
    refine x_put (M' := uR M_z r_z c_z v_z) C0_z hR hS_z hf2 hfin h_z.1 trivial (Or.inr (Or.inr (Or.inl ⟨rfl, v_z, rfl⟩))) (fun q_z hq => agr_uR hq) rfl rfl rfl (fun q_z => hR.rng r_z q_z) (fun k2_z hk2 => ?_) hd_z (fun H1_z locs1 q1_z q2_z => h_z.2 p_z e_z R_z s_z m_z args_z below_z meth_z c0_z H1_z locs1 cells_z slots_z ls C0_z q1_z q2_z hL (okt (okt hst)))
    by_cases hk : k2_z = c_z.toNat
    · rw [if_pos hk, hk, ky]
      show a_r (gR (uR M_z r_z c_z v_z) r_z (c_z.toNat : Int)) = _
      rw [gR_uR, if_pos ⟨rfl, hcc.symm⟩]
    · rw [if_neg hk]
      unfold fld
      split
      · rfl
      · rw [gR_uR, if_neg (fun w_z => tagne k2_z hk2 hk w_z.2)]
      · rfl
  · rename_i v_z r_z st2_z
    refine x_put (M' := uI M_z r_z c_z v_z) C0_z hR hS_z hf2 hfin h_z.1 (ok1 hst) (Or.inr (Or.inr (Or.inr ⟨rfl, v_z, rfl, h_z.2.1⟩))) (fun q_z hq => agr_uI hq) rfl rfl rfl (fun q_z => ⟨?_, (hR.rng r_z q_z).2⟩) (fun k2_z hk2 => ?_) hd_z (fun H1_z locs1 q1_z q2_z => h_z.2.2 p_z e_z R_z s_z m_z args_z below_z meth_z c0_z H1_z locs1 cells_z slots_z ls C0_z q1_z q2_z hL (okt (okt hst)))
    · rw [gI_uI]; split
      · exact ok1 hst
      · exact (hR.rng r_z q_z).1
    · by_cases hk : k2_z = c_z.toNat
      · rw [if_pos hk, hk, ky]
        show a_i (gI (uI M_z r_z c_z v_z) r_z (c_z.toNat : Int)) = _
        rw [gI_uI, if_pos ⟨rfl, hcc.symm⟩]
      · rw [if_neg hk]
        unfold fld
        split
        · rfl
        · rfl
        · rw [gI_uI, if_neg (fun w_z => tagne k2_z hk2 hk w_z.2)]
  · exact h_z.elim
set_option maxHeartbeats 4000000 in
theorem st_getstatic {lau : Launch} {G_z : Env0} {D_z : va_G} {dA : Nat → ClassId} {j_z nx pc len_z a_z b_z : Nat} {c_z : Int} {al_z st_z : List AV} {M_z : Mem} {Q_z : Option AV → Mem → Prop} {k_z : Nat} (hc_z : chkI j_z (.getstatic k_z) pc len_z a_z b_z c_z nx = true) (hd_z : decode (mby j_z) pc = .ok ((.getstatic k_z), len_z)) (h_z : stG lau G_z D_z dA j_z nx pc a_z b_z c_z al_z st_z M_z Q_z (.getstatic k_z)) : XS lau G_z D_z dA j_z pc al_z st_z M_z Q_z := by
  intro p_z e_z R_z s_z m_z args_z below_z meth_z c0_z H_z locs_z cells_z slots_z ls C0_z hR hS_z hL hst
  simp only [stG, wpi] at h_z
  simp only [chkI, Bool.and_eq_true, Bool.or_eq_true, Nat.beq_eq, Nat.blt_eq, Nat.ble_eq, decide_eq_true_eq] at hc_z
  obtain ⟨⟨⟨rfl, rfl⟩, hcc⟩, hf⟩ := hc_z
  have hs := List.all_eq_true.mp stfL_ok _ (mem_c5 hf)
  refine x_gets C0_z hS_z ⟨c_z.toNat, hs, hcc.symm⟩ hd_z (fun v_z hv => ?_)
  rcases hv with ⟨hb_z, rfl⟩ | ⟨hb_z, rfl, hi_z⟩
  · subst hb_z
    exact h_z p_z e_z R_z s_z m_z args_z below_z meth_z c0_z H_z locs_z cells_z slots_z ls C0_z hR hS_z hL (okc trivial hst)
  · subst hb_z
    exact h_z p_z e_z R_z s_z m_z args_z below_z meth_z c0_z H_z locs_z cells_z slots_z ls C0_z hR hS_z hL (okc hi_z hst)
set_option maxHeartbeats 4000000 in
theorem st_arraylength {lau : Launch} {G_z : Env0} {D_z : va_G} {dA : Nat → ClassId} {j_z nx pc len_z a_z b_z : Nat} {c_z : Int} {al_z st_z : List AV} {M_z : Mem} {Q_z : Option AV → Mem → Prop} (hc_z : chkI j_z .arraylength pc len_z a_z b_z c_z nx = true) (hd_z : decode (mby j_z) pc = .ok (.arraylength, len_z)) (h_z : stG lau G_z D_z dA j_z nx pc a_z b_z c_z al_z st_z M_z Q_z .arraylength) : XS lau G_z D_z dA j_z pc al_z st_z M_z Q_z := by
  intro p_z e_z R_z s_z m_z args_z below_z meth_z c0_z H_z locs_z cells_z slots_z ls C0_z hR hS_z hL hst
  simp only [stG, wpi] at h_z
  simp only [chkI, Bool.and_eq_true, Bool.or_eq_true, Nat.beq_eq, Nat.blt_eq, Nat.ble_eq, decide_eq_true_eq] at hc_z
  obtain ⟨rfl, rfl⟩ := hc_z
  split at h_z
  · exact x_alen C0_z hR h_z.1 hd_z (fun hi_z => h_z.2 p_z e_z R_z s_z m_z args_z below_z meth_z c0_z H_z locs_z cells_z slots_z ls C0_z hR hS_z hL (okc hi_z (okt hst)))
  · exact h_z.elim
set_option maxHeartbeats 4000000 in
theorem st_iaload {lau : Launch} {G_z : Env0} {D_z : va_G} {dA : Nat → ClassId} {j_z nx pc len_z a_z b_z : Nat} {c_z : Int} {al_z st_z : List AV} {M_z : Mem} {Q_z : Option AV → Mem → Prop} (hc_z : chkI j_z .iaload pc len_z a_z b_z c_z nx = true) (hd_z : decode (mby j_z) pc = .ok (.iaload, len_z)) (h_z : stG lau G_z D_z dA j_z nx pc a_z b_z c_z al_z st_z M_z Q_z .iaload) : XS lau G_z D_z dA j_z pc al_z st_z M_z Q_z := by
  intro p_z e_z R_z s_z m_z args_z below_z meth_z c0_z H_z locs_z cells_z slots_z ls C0_z hR hS_z hL hst
  simp only [stG, wpi] at h_z
  simp only [chkI, Bool.and_eq_true, Bool.or_eq_true, Nat.beq_eq, Nat.blt_eq, Nat.ble_eq, decide_eq_true_eq] at hc_z
  obtain ⟨rfl, rfl⟩ := hc_z
  split at h_z
  · exact x_ald C0_z hR h_z.2.1 h_z.2.2.1 hd_z (Or.inl ⟨rfl, h_z.1, rfl⟩) (h_z.2.2.2 p_z e_z R_z s_z m_z args_z below_z meth_z c0_z H_z locs_z cells_z slots_z ls C0_z hR hS_z hL (okc ((hR.rng _ _).1) (okt (okt hst))))
  · exact h_z.elim
set_option maxHeartbeats 4000000 in
theorem st_laload {lau : Launch} {G_z : Env0} {D_z : va_G} {dA : Nat → ClassId} {j_z nx pc len_z a_z b_z : Nat} {c_z : Int} {al_z st_z : List AV} {M_z : Mem} {Q_z : Option AV → Mem → Prop} (hc_z : chkI j_z .laload pc len_z a_z b_z c_z nx = true) (hd_z : decode (mby j_z) pc = .ok (.laload, len_z)) (h_z : stG lau G_z D_z dA j_z nx pc a_z b_z c_z al_z st_z M_z Q_z .laload) : XS lau G_z D_z dA j_z pc al_z st_z M_z Q_z := by
  intro p_z e_z R_z s_z m_z args_z below_z meth_z c0_z H_z locs_z cells_z slots_z ls C0_z hR hS_z hL hst
  simp only [stG, wpi] at h_z
  simp only [chkI, Bool.and_eq_true, Bool.or_eq_true, Nat.beq_eq, Nat.blt_eq, Nat.ble_eq, decide_eq_true_eq] at hc_z
  obtain ⟨rfl, rfl⟩ := hc_z
  split at h_z
  · exact x_ald C0_z hR h_z.2.1 h_z.2.2.1 hd_z (Or.inr (Or.inl ⟨rfl, h_z.1, rfl⟩)) (h_z.2.2.2 p_z e_z R_z s_z m_z args_z below_z meth_z c0_z H_z locs_z cells_z slots_z ls C0_z hR hS_z hL (okc ((hR.rng _ _).2) (okt (okt hst))))
  · exact h_z.elim
set_option maxHeartbeats 4000000 in
theorem st_baload {lau : Launch} {G_z : Env0} {D_z : va_G} {dA : Nat → ClassId} {j_z nx pc len_z a_z b_z : Nat} {c_z : Int} {al_z st_z : List AV} {M_z : Mem} {Q_z : Option AV → Mem → Prop} (hc_z : chkI j_z .baload pc len_z a_z b_z c_z nx = true) (hd_z : decode (mby j_z) pc = .ok (.baload, len_z)) (h_z : stG lau G_z D_z dA j_z nx pc a_z b_z c_z al_z st_z M_z Q_z .baload) : XS lau G_z D_z dA j_z pc al_z st_z M_z Q_z := by
  intro p_z e_z R_z s_z m_z args_z below_z meth_z c0_z H_z locs_z cells_z slots_z ls C0_z hR hS_z hL hst
  simp only [stG, wpi] at h_z
  simp only [chkI, Bool.and_eq_true, Bool.or_eq_true, Nat.beq_eq, Nat.blt_eq, Nat.ble_eq, decide_eq_true_eq] at hc_z
  obtain ⟨rfl, rfl⟩ := hc_z
  split at h_z
  · exact x_ald C0_z hR h_z.2.1 h_z.2.2.1 hd_z (Or.inr (Or.inr (Or.inl ⟨rfl, h_z.1, rfl⟩))) (h_z.2.2.2 p_z e_z R_z s_z m_z args_z below_z meth_z c0_z H_z locs_z cells_z slots_z ls C0_z hR hS_z hL (okc ((hR.rng _ _).1) (okt (okt hst))))
  · exact h_z.elim
set_option maxHeartbeats 4000000 in
theorem st_aaload {lau : Launch} {G_z : Env0} {D_z : va_G} {dA : Nat → ClassId} {j_z nx pc len_z a_z b_z : Nat} {c_z : Int} {al_z st_z : List AV} {M_z : Mem} {Q_z : Option AV → Mem → Prop} (hc_z : chkI j_z .aaload pc len_z a_z b_z c_z nx = true) (hd_z : decode (mby j_z) pc = .ok (.aaload, len_z)) (h_z : stG lau G_z D_z dA j_z nx pc a_z b_z c_z al_z st_z M_z Q_z .aaload) : XS lau G_z D_z dA j_z pc al_z st_z M_z Q_z := by
  intro p_z e_z R_z s_z m_z args_z below_z meth_z c0_z H_z locs_z cells_z slots_z ls C0_z hR hS_z hL hst
  simp only [stG, wpi] at h_z
  simp only [chkI, Bool.and_eq_true, Bool.or_eq_true, Nat.beq_eq, Nat.blt_eq, Nat.ble_eq, decide_eq_true_eq] at hc_z
  obtain ⟨rfl, rfl⟩ := hc_z
  split at h_z
  · exact x_ald C0_z hR h_z.2.1 h_z.2.2.1 hd_z (Or.inr (Or.inr (Or.inr ⟨rfl, h_z.1, rfl⟩))) (h_z.2.2.2 p_z e_z R_z s_z m_z args_z below_z meth_z c0_z H_z locs_z cells_z slots_z ls C0_z hR hS_z hL (okc (trivial) (okt (okt hst))))
  · exact h_z.elim
set_option maxHeartbeats 4000000 in
theorem st_iastore {lau : Launch} {G_z : Env0} {D_z : va_G} {dA : Nat → ClassId} {j_z nx pc len_z a_z b_z : Nat} {c_z : Int} {al_z st_z : List AV} {M_z : Mem} {Q_z : Option AV → Mem → Prop} (hc_z : chkI j_z .iastore pc len_z a_z b_z c_z nx = true) (hd_z : decode (mby j_z) pc = .ok (.iastore, len_z)) (h_z : stG lau G_z D_z dA j_z nx pc a_z b_z c_z al_z st_z M_z Q_z .iastore) : XS lau G_z D_z dA j_z pc al_z st_z M_z Q_z := by
  intro p_z e_z R_z s_z m_z args_z below_z meth_z c0_z H_z locs_z cells_z slots_z ls C0_z hR hS_z hL hst
  simp only [stG, wpi] at h_z
  simp only [chkI, Bool.and_eq_true, Bool.or_eq_true, Nat.beq_eq, Nat.blt_eq, Nat.ble_eq, decide_eq_true_eq] at hc_z
  obtain ⟨rfl, rfl⟩ := hc_z
  split at h_z
  · rename_i v_z i_z r_z st2_z
    have hw : gK M_z r_z = 100 ∨ gK M_z r_z = 101 ∨ gK M_z r_z = 102 ∨ (110 ≤ gK M_z r_z ∧ gK M_z r_z < 250) := by have := h_z.1; omega
    obtain ⟨a0_z, ea⟩ := rel_r hR (show gK M_z r_z ≠ 0 by omega)
    subst ea
    obtain ⟨l1, l2, n_z, g1, g2, g3_z⟩ := rel_rw hR hw
    have hlt := h_z.2.2.1
    rw [g1] at hlt
    obtain ⟨hi_z, e1_z, e2_z, e3_z⟩ := vin h_z.2.1 hlt g2
    have e4_z : ¬ (Int32.ofInt i_z < 0 ∨ (arrV (dA (gK M_z (a0_z + 1))) n_z (kvf M_z (a0_z + 1) (gK M_z (a0_z + 1)))).slots.size ≤ (Int32.ofInt i_z).toNatClampNeg) := by rw [arrV_size]; exact e3_z
    have ty_z := (ty_of C0_z.hwk l2).1 n_z (kvf M_z (a0_z + 1) (gK M_z (a0_z + 1)))
    have e5_z : s_z.isArrayOf (arrV (dA (gK M_z (a0_z + 1))) n_z (kvf M_z (a0_z + 1) (gK M_z (a0_z + 1)))) .int := by rw [h_z.1] at ty_z ⊢; exact ty_z
    refine W.iast C0_z.hex C0_z.hby g3_z e5_z (fun q_z => by cases q_z) e4_z rfl rfl hd_z fun H1_z w1_z w2_z w3_z => ?_
    rw [e1_z] at w1_z
    have q1_z := rel_store hR hw h_z.2.1 g1 g2 rfl (show okv (a_i v_z) from ok1 hst) g3_z (Or.inl ⟨Or.inl h_z.1, v_z, rfl⟩) (w1_z) w2_z w3_z
    have q2_z := hS_z.put (k := (Int32.ofInt i_z).toNatClampNeg) w2_z w3_z l1
    exact h_z.2.2.2 p_z e_z R_z s_z m_z args_z below_z meth_z c0_z H1_z _ cells_z slots_z ls C0_z q1_z q2_z hL (okt (okt (okt hst)))
  · exact h_z.elim
set_option maxHeartbeats 4000000 in
theorem st_lastore {lau : Launch} {G_z : Env0} {D_z : va_G} {dA : Nat → ClassId} {j_z nx pc len_z a_z b_z : Nat} {c_z : Int} {al_z st_z : List AV} {M_z : Mem} {Q_z : Option AV → Mem → Prop} (hc_z : chkI j_z .lastore pc len_z a_z b_z c_z nx = true) (hd_z : decode (mby j_z) pc = .ok (.lastore, len_z)) (h_z : stG lau G_z D_z dA j_z nx pc a_z b_z c_z al_z st_z M_z Q_z .lastore) : XS lau G_z D_z dA j_z pc al_z st_z M_z Q_z := by
  intro p_z e_z R_z s_z m_z args_z below_z meth_z c0_z H_z locs_z cells_z slots_z ls C0_z hR hS_z hL hst
  simp only [stG, wpi] at h_z
  simp only [chkI, Bool.and_eq_true, Bool.or_eq_true, Nat.beq_eq, Nat.blt_eq, Nat.ble_eq, decide_eq_true_eq] at hc_z
  obtain ⟨rfl, rfl⟩ := hc_z
  split at h_z
  · rename_i v_z i_z r_z st2_z
    have hw : gK M_z r_z = 100 ∨ gK M_z r_z = 101 ∨ gK M_z r_z = 102 ∨ (110 ≤ gK M_z r_z ∧ gK M_z r_z < 250) := by have := h_z.1; omega
    obtain ⟨a0_z, ea⟩ := rel_r hR (show gK M_z r_z ≠ 0 by omega)
    subst ea
    obtain ⟨l1, l2, n_z, g1, g2, g3_z⟩ := rel_rw hR hw
    have hlt := h_z.2.2.1
    rw [g1] at hlt
    obtain ⟨hi_z, e1_z, e2_z, e3_z⟩ := vin h_z.2.1 hlt g2
    have e4_z : ¬ (Int32.ofInt i_z < 0 ∨ (arrV (dA (gK M_z (a0_z + 1))) n_z (kvf M_z (a0_z + 1) (gK M_z (a0_z + 1)))).slots.size ≤ (Int32.ofInt i_z).toNatClampNeg) := by rw [arrV_size]; exact e3_z
    have ty_z := (ty_of C0_z.hwk l2).1 n_z (kvf M_z (a0_z + 1) (gK M_z (a0_z + 1)))
    have e5_z : s_z.isArrayOf (arrV (dA (gK M_z (a0_z + 1))) n_z (kvf M_z (a0_z + 1) (gK M_z (a0_z + 1)))) .long := by rw [h_z.1] at ty_z ⊢; exact ty_z
    refine W.last C0_z.hex C0_z.hby g3_z e5_z (fun q_z => by cases q_z) e4_z rfl rfl hd_z fun H1_z w1_z w2_z w3_z => ?_
    rw [e1_z] at w1_z
    have q1_z := rel_store hR hw h_z.2.1 g1 g2 rfl (show okv (a_l v_z) from ok1 hst) g3_z (Or.inr (Or.inl ⟨h_z.1, v_z, rfl⟩)) (w1_z) w2_z w3_z
    have q2_z := hS_z.put (k := (Int32.ofInt i_z).toNatClampNeg) w2_z w3_z l1
    exact h_z.2.2.2 p_z e_z R_z s_z m_z args_z below_z meth_z c0_z H1_z _ cells_z slots_z ls C0_z q1_z q2_z hL (okt (okt (okt hst)))
  · exact h_z.elim
set_option maxHeartbeats 4000000 in
theorem st_bastore {lau : Launch} {G_z : Env0} {D_z : va_G} {dA : Nat → ClassId} {j_z nx pc len_z a_z b_z : Nat} {c_z : Int} {al_z st_z : List AV} {M_z : Mem} {Q_z : Option AV → Mem → Prop} (hc_z : chkI j_z .bastore pc len_z a_z b_z c_z nx = true) (hd_z : decode (mby j_z) pc = .ok (.bastore, len_z)) (h_z : stG lau G_z D_z dA j_z nx pc a_z b_z c_z al_z st_z M_z Q_z .bastore) : XS lau G_z D_z dA j_z pc al_z st_z M_z Q_z := by
  intro p_z e_z R_z s_z m_z args_z below_z meth_z c0_z H_z locs_z cells_z slots_z ls C0_z hR hS_z hL hst
  simp only [stG, wpi] at h_z
  simp only [chkI, Bool.and_eq_true, Bool.or_eq_true, Nat.beq_eq, Nat.blt_eq, Nat.ble_eq, decide_eq_true_eq] at hc_z
  obtain ⟨rfl, rfl⟩ := hc_z
  split at h_z
  · rename_i v_z i_z r_z st2_z
    have hw : gK M_z r_z = 100 ∨ gK M_z r_z = 101 ∨ gK M_z r_z = 102 ∨ (110 ≤ gK M_z r_z ∧ gK M_z r_z < 250) := by have := h_z.1; omega
    obtain ⟨a0_z, ea⟩ := rel_r hR (show gK M_z r_z ≠ 0 by omega)
    subst ea
    obtain ⟨l1, l2, n_z, g1, g2, g3_z⟩ := rel_rw hR hw
    have hlt := h_z.2.2.1
    rw [g1] at hlt
    obtain ⟨hi_z, e1_z, e2_z, e3_z⟩ := vin h_z.2.1 hlt g2
    have e4_z : ¬ (Int32.ofInt i_z < 0 ∨ (arrV (dA (gK M_z (a0_z + 1))) n_z (kvf M_z (a0_z + 1) (gK M_z (a0_z + 1)))).slots.size ≤ (Int32.ofInt i_z).toNatClampNeg) := by rw [arrV_size]; exact e3_z
    have ty_z := (ty_of C0_z.hwk l2).1 n_z (kvf M_z (a0_z + 1) (gK M_z (a0_z + 1)))
    have e5_z : s_z.isArrayOf (arrV (dA (gK M_z (a0_z + 1))) n_z (kvf M_z (a0_z + 1) (gK M_z (a0_z + 1)))) .boolean := by rw [h_z.1] at ty_z ⊢; exact ty_z
    have e6_z : narrow .boolean (.int (Int32.ofInt v_z)) = cv (a_i v_z) := by rcases h_z.2.2.2.1 with q_z | q_z <;> (rw [q_z]; decide)
    refine W.zast C0_z.hex C0_z.hby g3_z e5_z (fun q_z => by cases q_z) e4_z rfl rfl hd_z fun H1_z w1_z w2_z w3_z => ?_
    rw [e1_z, e6_z] at w1_z
    have q1_z := rel_store hR hw h_z.2.1 g1 g2 rfl (show okv (a_i v_z) from ok1 hst) g3_z (Or.inl ⟨Or.inr h_z.1, v_z, rfl⟩) (w1_z) w2_z w3_z
    have q2_z := hS_z.put (k := (Int32.ofInt i_z).toNatClampNeg) w2_z w3_z l1
    exact h_z.2.2.2.2 p_z e_z R_z s_z m_z args_z below_z meth_z c0_z H1_z _ cells_z slots_z ls C0_z q1_z q2_z hL (okt (okt (okt hst)))
  · exact h_z.elim
theorem w_assign {s_z : State} {cC : ClassId} {kC_z : Class} (hk : s_z.vm.classes[cC]? = some kC_z) (ho : kC_z.kind = .ordinary) : s_z.vm.assignable cC cC = true := by
  simp [Vm.assignable, Vm.assignableAux, hk, ho, Vm.isSubclass, Vm.isSubclassAux]
theorem tyA_le : ∀ q ∈ tyA, q.1 = 100 ∨ q.1 = 101 ∨ q.1 = 102 ∨ q.1 = 113 ∨ q.1 = 117 ∨ q.1 = 118 ∨ q.1 = 119 ∨ q.1 = 150 := by decide
set_option maxHeartbeats 4000000 in
theorem st_aastore {lau : Launch} {G_z : Env0} {D_z : va_G} {dA : Nat → ClassId} {j_z nx pc len_z a_z b_z : Nat} {c_z : Int} {al_z st_z : List AV} {M_z : Mem} {Q_z : Option AV → Mem → Prop} (hc_z : chkI j_z .aastore pc len_z a_z b_z c_z nx = true) (hd_z : decode (mby j_z) pc = .ok (.aastore, len_z)) (h_z : stG lau G_z D_z dA j_z nx pc a_z b_z c_z al_z st_z M_z Q_z .aastore) : XS lau G_z D_z dA j_z pc al_z st_z M_z Q_z := by
  intro p_z e_z R_z s_z m_z args_z below_z meth_z c0_z H_z locs_z cells_z slots_z ls C0_z hR hS_z hL hst
  simp only [stG, wpi] at h_z
  simp only [chkI, Bool.and_eq_true, Bool.or_eq_true, Nat.beq_eq, Nat.blt_eq, Nat.ble_eq, decide_eq_true_eq] at hc_z
  obtain ⟨rfl, rfl⟩ := hc_z
  split at h_z
  · rename_i v_z i_z r_z st2_z
    have hw : gK M_z r_z = 100 ∨ gK M_z r_z = 101 ∨ gK M_z r_z = 102 ∨ (110 ≤ gK M_z r_z ∧ gK M_z r_z < 250) := by have := h_z.1; omega
    obtain ⟨a0_z, ea⟩ := rel_r hR (show gK M_z r_z ≠ 0 by omega)
    subst ea
    obtain ⟨l1, l2, n_z, g1, g2, g3_z⟩ := rel_rw hR hw
    have hlt := h_z.2.2.1
    rw [g1] at hlt
    obtain ⟨hi_z, e1_z, e2_z, e3_z⟩ := vin h_z.2.1 hlt g2
    have e4_z : ¬ (Int32.ofInt i_z < 0 ∨ (arrV (dA (gK M_z (a0_z + 1))) n_z (kvf M_z (a0_z + 1) (gK M_z (a0_z + 1)))).slots.size ≤ (Int32.ofInt i_z).toNatClampNeg) := by rw [arrV_size]; exact e3_z
    have ty_z := (ty_of C0_z.hwk l2).1 n_z (kvf M_z (a0_z + 1) (gK M_z (a0_z + 1)))
    have l3 : ∃ cn, ktyA (gK M_z (a0_z + 1)) = .object cn ∧ cn = elR (gK M_z (a0_z + 1)) := by
      unfold ktyA
      rw [if_neg (by omega), if_neg (by omega), if_neg (by omega), if_neg (by omega), if_neg (by omega)]
      exact ⟨_, rfl, rfl⟩
    obtain ⟨cn, l4, l5⟩ := l3
    rw [l4] at ty_z l2
    have hq : ∀ H1_z : Heap, H1_z[a0_z]? = some ((arrV (dA (gK M_z (a0_z + 1))) n_z (kvf M_z (a0_z + 1) (gK M_z (a0_z + 1)))).setSlot (Int32.ofInt i_z).toNatClampNeg (cv (a_r v_z))) → H1_z.size = H_z.size → (∀ q_z : Nat, q_z ≠ a0_z → H1_z[q_z]? = H_z[q_z]?) → W p_z lau e_z R_z s_z m_z args_z below_z meth_z c0_z H1_z (locs_z ++ [⟨a0_z, (Int32.ofInt i_z).toNatClampNeg⟩]) cells_z slots_z (MQ below_z (QcS G_z D_z dA Q_z) args_z s_z R_z.cells R_z.slots (aA G_z)) (F0 m_z (pc + 1) ls (st2_z.map cv)) := by
      intro H1_z w1_z w2_z w3_z
      rw [e1_z] at w1_z
      have q1_z := rel_store hR hw h_z.2.1 g1 g2 rfl (show okv (a_r v_z) from trivial) g3_z (Or.inr (Or.inr ⟨h_z.1.1, v_z, rfl⟩)) w1_z w2_z w3_z
      have q2_z := hS_z.put (k := (Int32.ofInt i_z).toNatClampNeg) w2_z w3_z l1
      exact h_z.2.2.2.2 p_z e_z R_z s_z m_z args_z below_z meth_z c0_z H1_z _ cells_z slots_z ls C0_z q1_z q2_z hL (okt (okt (okt hst)))
    cases v_z with
    | zero => exact va_WaastN C0_z.hex C0_z.hby g3_z ty_z (fun q_z => by cases q_z) e4_z rfl rfl hd_z hq
    | succ v0_z =>
      have hv := h_z.2.2.2.1.resolve_left (Nat.succ_ne_zero v0_z)
      have hb2 := h_z.1
      obtain ⟨kA_z, comp, k1_z, k2_z, k3_z, -⟩ := (ty_of C0_z.hwk l2).2
      have htl := tyA_le _ l2
      have hobj : ∃ cellV : Cell, H_z[v0_z]? = some cellV ∧ cellV.vm.isStatics = false ∧ s_z.vm.findClass cn = some cellV.cls := by
        by_cases h150 : gK M_z (v0_z + 1) = 41
        · obtain ⟨-, cell_z, w1_z, w2_z, w3_z, w5, -⟩ := rel_ro hR (show gK M_z (v0_z + 1) = 40 + 1 from h150) (Or.inl rfl)
          refine ⟨cell_z, w1_z, w3_z, ?_⟩
          rw [l5, show gK M_z (a0_z + 1) = 150 by omega]
          exact w5
        · have hb_z : gK M_z (v0_z + 1) - 1 < 11 := by
            dsimp only at htl
            omega
          obtain ⟨-, cell_z, w1_z, w2_z, w3_z, -⟩ := rel_obj hR (show gK M_z (v0_z + 1) = (gK M_z (v0_z + 1) - 1) + 1 by omega) hb_z
          obtain ⟨-, hfc, -⟩ := C0_z.hwk.1.1 (gK M_z (v0_z + 1) - 1) _ (kcl_at _ hb_z)
          refine ⟨cell_z, w1_z, by rw [w3_z]; rfl, ?_⟩
          rw [l5, w2_z]
          unfold elR
          rw [if_neg (by omega), show gK M_z (a0_z + 1) - 110 = gK M_z (v0_z + 1) - 1 by omega]
          exact hfc
      obtain ⟨cellV, w1_z, w2_z, w3_z⟩ := hobj
      have hcomp : comp = cellV.cls := Option.some.inj (k3_z.symm.trans w3_z)
      subst hcomp
      obtain ⟨kC_z, hkC, -⟩ := Vm.findClass_spec w3_z
      refine W.aast C0_z.hex C0_z.hby g3_z (fun q_z w_z => by cases w_z) (fun w_z => by cases w_z) k1_z k2_z rfl hkC ⟨i_nneg hi_z h_z.2.1, by rw [arrV_size, e1_z]; exact e2_z⟩ w1_z (fun q_z w_z => by rw [w_z] at w2_z; cases w2_z) hkC (Vm.assignable_self _ _) rfl rfl hd_z hq
  · exact h_z.elim
