/-! THE START, part 8: from the entry on. Own work. -/
theorem start_W {p_z : Program} {e_z : Env} {s_z : State} {m_z : MethodId} {below_z : List Frame} {meth_z : Method} {c_z : Code} (l : Launch) {b_z L_z : Nat} {xs : Nat → Int32} (hL : L_z ≤ 3072) (C0_z : lw_At p_z s_z m_z meth_z c_z b_z L_z xs) (hck : ∀ j_z, chkJ j_z = true) (hpure : Call (envS s_z b_z) J_L_law [a_r (b_z + 1)] (memS s_z b_z) (fun r_z _ => r_z = some (a_i 1))) : W p_z l e_z room_1 s_z m_z #[Value.ref b_z] below_z meth_z c_z s_z.heap [] 0 0 (lw_Z below_z #[Value.ref b_z] s_z) (entryFrame m_z ([Value.ref b_z] : List Value).toArray 4) := by
  obtain ⟨hx, hcode, hret, hml, hown, hts, hX, hbl, hlock, hgv⟩ := C0_z
  have hq := flat_of_before _ hgv
  have hs : ∀ w_z ∈ nwN, w_z.before #[Value.ref b_z] s_z = true := fun w_z hw => hq w_z (List.mem_append_right _ hw)
  obtain ⟨D_z, dA, hK_z⟩ := start_wk hts hs
  have hR : RelM (envS s_z b_z) D_z dA s_z (memS s_z b_z) s_z.heap := start_rel hL hX hs
  have hok : ∀ v_z ∈ [a_r (b_z + 1)], okv v_z := fun v_z hv => by
    rw [List.mem_singleton.mp hv]
    exact trivial
  have hl := lv_entry ([a_r (b_z + 1)].map cv) (n := (tab 0).1) (by rw [sl_len]; exact (by decide : (1 : Nat) ≤ 4))
  have hC : CtxJ (envS s_z b_z) D_z dA p_z room_1 s_z m_z #[Value.ref b_z] meth_z c_z 0 := by
    refine ⟨hx, hcode, hml, hret, hlock, fun h_z => absurd h_z (by decide), hown, fun w_z hw => hts w_z (List.mem_filter.mp hw).1, hK_z, by decide, by decide, rfl, ?_, Nat.le_refl _⟩
    have h2 := hR.2.1
    show 7302249 + hsum (envS s_z b_z).1 s_z.heap = 7302249
    rw [← h2]
    rfl
  show W p_z l e_z room_1 s_z m_z #[Value.ref b_z] below_z meth_z c_z s_z.heap [] 0 0 (lw_Z below_z #[Value.ref b_z] s_z) (entryFrame m_z ([a_r (b_z + 1)].map cv).toArray (tab 0).1)
  rw [lg_entry_eq]
  generalize (lg_sl ([a_r (b_z + 1)].map cv) ++ List.replicate ((tab 0).1 - (lg_sl ([a_r (b_z + 1)].map cv)).length) Slot.unset).toArray = ls at hl ⊢
  have hW := (sim_X hck hpure : XS l (envS s_z b_z) D_z dA 0 0 (ini (tab 0).1 [a_r (b_z + 1)]) [] (memS s_z b_z) (fun r_z _ => r_z = some (a_i 1))) p_z e_z room_1 s_z m_z #[Value.ref b_z] below_z meth_z c_z s_z.heap [] 0 0 ls hC hR va_S.rf (RL.ini hok hl) (fun v_z h_z => absurd h_z List.not_mem_nil)
  intro T hT_z X_z
  obtain ⟨t_z, a1_z, o, b1, b2, ⟨⟨r_z, M', e1_z, e2_z, -, -⟩, -⟩, K_z, ⟨h1, h2, h3, h4, h5, h6, h7, h8⟩, hfree⟩ := hW T hT_z X_z
  refine ⟨t_z, a1_z, o, b1, b2, ?_, h1, h2, h3, h4, h5, h6, h7, fun a_z cl_z hc_z => ?_⟩
  · rw [e1_z, e2_z]
    rfl
  · obtain ⟨c', g1, g2, g3_z, g4⟩ := h8 a_z cl_z hc_z
    exact ⟨c', g1, g2, g3_z, fun i_z _ => g4 i_z (fun hm_z => absurd (hfree _ hm_z) (Nat.not_le.mpr (Array.getElem?_eq_some_iff.mp hc_z).1))⟩
