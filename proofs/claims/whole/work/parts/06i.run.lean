/-! THE SMALL MACHINE, part 6: calls and returns. Own work. -/
section XR
variable {p : Program} {l : Launch} {e : Env} {R : Room} {s : State} {m : MethodId} {args : Array Value} {below : List Frame} {meth : Method} {c : Code} {H : Heap} {locs : List Loc} {cells slots : Nat} {Q : State → Prop}
variable {G : Env0} {D : va_G} {dA : Nat → ClassId} {j : Nat} {M : Mem} {pc : Nat} {ls : Array Slot} {rest : List AV}
theorem w_after {mc_z ms : Nat} {st0 restV : List Value} {av : Array Value} {Q2_z : Option AV → Mem → Prop} (hr : va_Run p l e R s m args below meth c H locs cells slots mc_z ms (F0 m pc ls st0) restV (QcS G D dA Q2_z av) (aA G)) (hS_z : va_S (aA G) s.heap H locs)
    (kk : ∀ (r_z : Option AV) (M' : Mem) (H1_z : Heap) (locs1 : List Loc), Q2_z r_z M' → (∀ v_z, r_z = some v_z → okv v_z) → RelM G D dA s M' H1_z → va_S (aA G) s.heap H1_z locs1 → W p l e R s m args below meth c H1_z locs1 (cells + mc_z) (slots + ms) Q (F0 m (pc + 3) ls ((r_z.map cv).toList ++ restV))) : W p l e R s m args below meth c H locs cells slots Q (F0 m pc ls st0) := by
  intro T hT_z X_z
  obtain ⟨v_z, st₀, t_z, T', L_z, h0, X', hL, e1_z, e2_z, ⟨⟨r_z, M', hv, hq, hok, hrel⟩, hz, hk⟩, st_z⟩ := hr T hT_z X_z
  cases hv
  rw [h0] at hz hk
  have hal : t_z.vm.Alike s.vm := by rw [← e2_z]; exact X'.warmed.alike.symm
  have hrel2 := hrel.moved hal
  rw [← e1_z] at hrel2
  obtain ⟨t2_z, a1_z, b1⟩ := kk r_z M' T'.heap (locs ++ L_z) hq hok hrel2
    ⟨Nat.le_trans hS_z.1 (by rw [e1_z]; exact hz), fun q_z h1 h2 => by rw [e1_z, hk q_z (Nat.lt_of_lt_of_le h1 hS_z.1) h2]; exact hS_z.2.1 q_z h1 h2, fun q_z hq => by
      rcases List.mem_append.mp hq with h_z | h_z
      · exact hS_z.2.2 q_z h_z
      · exact hL q_z h_z⟩ T' rfl X'
  exact ⟨t2_z, st_z t2_z a1_z, b1⟩
theorem rel_recv {r_z ci : Nat} (C0_z : CtxJ G D dA p R s m args meth c j) (hR : RelM G D dA s M H) (hK_z : gK M r_z = ci) (hc_z : (0 < ci ∧ ci ≤ 11) ∨ ci = 42) : ∃ a_z cell_z, r_z = a_z + 1 ∧ H[a_z]? = some cell_z ∧ cell_z.vm.isStatics = false ∧ s.vm.findClass (if ci = 42 then rR 41 else kR (ci - 1)) = some cell_z.cls := by
  obtain ⟨a0_z, ea⟩ := rel_r hR (show gK M r_z ≠ 0 by omega)
  subst ea
  rcases hc_z with hc_z | hc_z
  · obtain ⟨-, cell_z, q1_z, q2_z, q3_z, -⟩ := rel_obj hR (show gK M (a0_z + 1) = (ci - 1) + 1 by omega) (by omega)
    obtain ⟨-, hfc, -⟩ := C0_z.hwk.1.1 (ci - 1) _ (kcl_at (ci - 1) (by omega))
    refine ⟨a0_z, cell_z, rfl, q1_z, by rw [q3_z]; rfl, ?_⟩
    rw [if_neg (by omega), q2_z]
    exact hfc
  · subst hc_z
    obtain ⟨-, cell_z, q1_z, q2_z, q3_z, q5_z, -⟩ := rel_ro (ci := 41) hR hK_z (Or.inr rfl)
    exact ⟨a0_z, cell_z, rfl, q1_z, q3_z, by rw [if_pos rfl]; exact q5_z⟩
theorem sum_cv (st_z : List AV) : ((st_z.map cv).map fun v_z => v_z.category).sum = (st_z.map catv).sum := by
  induction st_z with
  | nil => rfl
  | cons v_z st_z ih_z =>
    simp only [List.map_cons, List.sum_cons, ih_z, cv_cat]
/-- what a_z call needs of the caller -/
theorem x_call {idx_z j' n_z cl_z kd how : Nat} {as_z : List AV} {M_z : Mem} {Q2_z : Option AV → Mem → Prop} (C0_z : CtxJ G D dA p R s m args meth c j) (hR : RelM G D dA s M_z H) (hS_z : va_S (aA G) s.heap H locs) (hls : ls.size = (tab j).1) (hj : 0 < j') (hj2 : j' < 260) (hcal : calOk (mow j, idx_z, j', n_z, cl_z, kd, how)) (hn : as_z.length = n_z)
    (hcat : (as_z.map catv).sum ≤ (tab j').1) (hht : mht j' + 1 ≤ mht j) (hlo : 19 + (tab j').1 + mlo j' ≤ mlo j) (hrest : (rest.map catv).sum ≤ 8) (hok : ∀ v_z ∈ as_z, okv v_z) (hrecv : ¬ how = 0 → ∃ (r_z : Nat) (as' : List AV), as_z = a_r r_z :: as' ∧ gK M_z r_z = cl_z)
    (hX : XS l G D dA j' 0 (ini (tab j').1 as_z) [] M_z Q2_z) (hdg : ∃ ins, decode (mby j) pc = .ok (ins, 3) ∧ ((how = 0 ∧ ins = .invokestatic idx_z) ∨ (how = 1 ∧ ins = .invokevirtual idx_z) ∨ (how = 2 ∧ ins = .invokespecial idx_z)))
    (kk : ∀ (r_z : Option AV) (M' : Mem) (H1_z : Heap) (locs1 : List Loc) (kCells kSlots : Nat), Q2_z r_z M' → (∀ v_z, r_z = some v_z → okv v_z) → RelM G D dA s M' H1_z → va_S (aA G) s.heap H1_z locs1 → W p l e R s m args below meth c H1_z locs1 kCells kSlots Q (F0 m (pc + 3) ls ((r_z.map cv).toList ++ rest.map cv))) : W p l e R s m args below meth c H locs cells slots Q (F0 m pc ls ((as_z.reverse ++ rest).map cv)) := by
  refine w_exact C0_z hR fun kC_z kS h1 h2 => ?_
  have hM_z := xs_met hj hj2 hok hcat hX
  have hG := wsJ_good hj hj2
  have hroom : (rmJ G M_z j').frames + 1 ≤ R.frames ∧ 8 + ((tab j').1 + 11) + (rmJ G M_z j').locals ≤ R.locals := by
    have := C0_z.hfr
    have := C0_z.hlo
    exact ⟨by show mht j' + 1 ≤ _; omega, by show 8 + ((tab j').1 + 11) + mlo j' ≤ _; omega⟩
  have hW : 2 * (F0 m pc ls ((as_z.reverse ++ rest).map cv)).monitorRoom + ((rest.map cv).map fun v_z => v_z.category).sum ≤ 8 := by rw [sum_cv]; show 2 * 0 + _ ≤ 8; omega
  have hsz : (F0 m pc ls ((as_z.reverse ++ rest).map cv)).locals.size = (tab j).1 := hls
  have hpre : ∀ U_z : State, U_z.heap = H → s.WarmedH U_z.vm → pcJ G D dA M_z as_z (as_z.map cv).toArray U_z := fun U_z hU hW2 => ⟨rfl, by rw [hU]; exact hR.moved hW2.alike, C0_z.hwk.warm hW2 (fun a_z ha_z hna => by rw [hU]; exact hS_z.2.1 a_z ha_z hna)⟩
  have fx : CallFix p m c (mby j) (tab j).1 s args gtbl (onm (mow j)) := ⟨C0_z.hex, C0_z.hby, C0_z.hml, C0_z.how, C0_z.hts⟩
  obtain ⟨c1_z, c2_z, c3_z, c4_z⟩ := hcal
  simp only [plainCls, Bool.and_eq_true, decide_eq_true_eq] at c1_z
  have hrc : (rmJ G M_z j').cells = G.1 + 600000 - gz M_z := rfl
  have hrs : (rmJ G M_z j').slots = 7302249 - gs M_z := rfl
  have hroom2 : kC_z + (G.1 + 600000 - gz M_z) ≤ R.cells ∧ kS + (7302249 - gs M_z) ≤ R.slots := ⟨by omega, by omega⟩
  obtain ⟨ins, hdg, hins⟩ := hdg
  rcases c4_z with ⟨d1_z, d2_z, d3_z, d4_z⟩ | ⟨d1_z, d2_z, d3_z, d4_z, d5_z, d6_z⟩ | ⟨d1_z, d2_z, d3_z, d4_z, d5_z, d6_z, d7_z⟩
  · have ei : ins = .invokestatic idx_z := by
      rcases hins with ⟨-, q_z⟩ | ⟨q_z, -⟩ | ⟨q_z, -⟩
      · exact q_z
      · omega
      · omega
    subst ei
    have hd_z : (mty j').cls ≠ "java/lang/invoke/MethodHandle" ∧ (mty j').cls ≠ "java/lang/invoke/VarHandle" ∧ (parseMethodDescriptor (mty j').desc).map (fun d_z => d_z.parameters.length) = some n_z := ⟨c1_z.1, c1_z.2, d3_z⟩
    have hrun : va_Run p l e R s m args below meth c H locs kC_z kS (G.1 + 600000 - gz M_z) (7302249 - gs M_z) (F0 m pc ls ((as_z.reverse ++ rest).map cv)) (rest.map cv) (QcS G D dA Q2_z (as_z.map cv).toArray) (aA G) := by
      rcases c3_z with ⟨-, g_z⟩ | ⟨-, g_z⟩
      · exact va_runS (ret := mre j') fx hM_z ⟨callB_of n_z C0_z.hts hG rfl hrc hrs (C0_z.hts _ c2_z) (C0_z.hts _ g_z) hd_z hroom, C0_z.hts _ d4_z⟩ ⟨pcJ_blind, hpre⟩ rfl (by rw [List.length_map]; exact hn) hsz (by show _ = _; simp) hW hdg hroom2
      · exact va_runSN (ret := mre j') fx hM_z ⟨va_cnB n_z C0_z.hts hG rfl hrc hrs (C0_z.hnt _ g_z) (C0_z.hts _ c2_z) hd_z hroom, C0_z.hts _ d4_z, trivial⟩ ⟨pcJ_blind, hpre⟩ rfl (by rw [List.length_map]; exact hn) hsz (by show _ = _; simp) hW hdg hroom2
    exact w_after hrun hS_z fun r_z M' H1_z locs1 g1 g2 g3_z g4 => kk r_z M' H1_z locs1 _ _ g1 g2 g3_z g4
  · have ei : ins = .invokevirtual idx_z := by
      rcases hins with ⟨q_z, -⟩ | ⟨-, q_z⟩ | ⟨q_z, -⟩
      · omega
      · exact q_z
      · omega
    subst ei
    obtain ⟨r0, as', ea, hK_z⟩ := hrecv (by omega)
    subst ea
    obtain ⟨a0_z, cellB_z, er, hcb, hst, hcl⟩ := rel_recv C0_z hR hK_z (d6_z.imp (fun q_z => ⟨q_z.1, q_z.2.1⟩) (fun q_z => q_z.1))
    subst er
    have hcl2 : s.vm.findClass (mty j').cls = some cellB_z.cls := by
      rcases d6_z with q_z | q_z
      · rw [if_neg (by omega), q_z.2.2] at hcl; exact hcl
      · rw [if_pos q_z.1, q_z.2] at hcl; exact hcl
    have hd_z : (mty j').cls ≠ "java/lang/invoke/MethodHandle" ∧ (mty j').cls ≠ "java/lang/invoke/VarHandle" ∧ (parseMethodDescriptor (mty j').desc).map (fun d_z => d_z.parameters.length) = some (n_z - 1) := ⟨c1_z.1, c1_z.2, d3_z⟩
    have hlen : (as'.map cv).length = n_z - 1 := by rw [List.length_map]; simp at hn; omega
    have hrun : va_Run p l e R s m args below meth c H locs kC_z kS (G.1 + 600000 - gz M_z) (7302249 - gs M_z) (F0 m pc ls (((a_r (a0_z + 1) :: as').reverse ++ rest).map cv)) (rest.map cv) (QcS G D dA Q2_z (Value.ref a0_z :: as'.map cv).toArray) (aA G) := by
      rcases c3_z with ⟨-, g_z⟩ | ⟨-, g_z⟩
      · exact va_runV (ret := mre j') (C := (mty j').cls) fx hM_z ⟨callB_of (n_z - 1) C0_z.hts hG rfl hrc hrs (C0_z.hts _ c2_z) (C0_z.hts _ g_z) hd_z hroom, C0_z.hts _ d4_z, C0_z.hts _ d5_z⟩ ⟨pcJ_blind, ⟨cellB_z, hcb, hst, hcl2⟩, hpre⟩ rfl hlen hsz (by show _ = _; simp [cv]) hW hdg hroom2
      · exact va_runVN (ret := mre j') (C := (mty j').cls) fx hM_z ⟨va_cnB (n_z - 1) C0_z.hts hG rfl hrc hrs (C0_z.hnt _ g_z) (C0_z.hts _ c2_z) hd_z hroom, C0_z.hts _ d4_z, C0_z.hts _ d5_z⟩ ⟨pcJ_blind, ⟨cellB_z, hcb, hst, hcl2⟩, hpre⟩ rfl hlen hsz (by show _ = _; simp [cv]) hW hdg hroom2
    exact w_after hrun hS_z fun r_z M' H1_z locs1 g1 g2 g3_z g4 => kk r_z M' H1_z locs1 _ _ g1 g2 g3_z g4
  · have ei : ins = .invokespecial idx_z := by
      rcases hins with ⟨q_z, -⟩ | ⟨q_z, -⟩ | ⟨-, q_z⟩
      · omega
      · omega
      · exact q_z
    subst ei
    obtain ⟨r0, as', ea, hK_z⟩ := hrecv (by omega)
    subst ea
    obtain ⟨a0_z, er⟩ := rel_r hR (show gK M_z r0 ≠ 0 by omega)
    subst er
    have hd_z : (mty j').cls ≠ "java/lang/invoke/MethodHandle" ∧ (mty j').cls ≠ "java/lang/invoke/VarHandle" ∧ (parseMethodDescriptor (mty j').desc).map (fun d_z => d_z.parameters.length) = some (n_z - 1) := ⟨c1_z.1, c1_z.2, d3_z⟩
    have hlen : (as'.map cv).length = n_z - 1 := by rw [List.length_map]; simp at hn; omega
    have hw : wsJ j' = Cond.code (mty j') (mby j') (tab j').1 none :: gtbl := by unfold wsJ; rw [d6_z]
    have hrun : va_Run p l e R s m args below meth c H locs kC_z kS (G.1 + 600000 - gz M_z) (7302249 - gs M_z) (F0 m pc ls (((a_r (a0_z + 1) :: as').reverse ++ rest).map cv)) (rest.map cv) (QcS G D dA Q2_z (Value.ref a0_z :: as'.map cv).toArray) (aA G) := by
      rcases c3_z with ⟨-, g_z⟩ | ⟨-, g_z⟩
      · exact va_runI fx hM_z ⟨callB_of (n_z - 1) C0_z.hts hG hw hrc hrs (C0_z.hts _ c2_z) (C0_z.hts _ g_z) hd_z hroom, d5_z, C0_z.hts _ d4_z⟩ ⟨pcJ_blind, hpre⟩ rfl hlen hsz (by show _ = _; simp [cv]) hW hdg hroom2
      · exact va_runIN fx hM_z ⟨va_cnB (n_z - 1) C0_z.hts hG hw hrc hrs (C0_z.hnt _ g_z) (C0_z.hts _ c2_z) hd_z hroom, d5_z, C0_z.hts _ d4_z⟩ ⟨pcJ_blind, hpre⟩ rfl hlen hsz (by show _ = _; simp [cv]) hW hdg hroom2
    exact w_after hrun hS_z fun r_z M' H1_z locs1 g1 g2 g3_z g4 => kk r_z M' H1_z locs1 _ _ g1 g2 g3_z g4
/-- the operators' numbers -/
theorem x_ord {idx_z j' : Nat} {r_z : Nat} {Q2_z : Option AV → Mem → Prop} (C0_z : CtxJ G D dA p R s m args meth c j) (hR : RelM G D dA s M H) (hS_z : va_S (aA G) s.heap H locs) (hls : ls.size = (tab j).1) (hj : 0 < j') (hj2 : j' < 260) (hm_z : (mow j, idx_z, j', 1, 41) ∈ ordL) (hK_z : gK M r_z = 41)
    (hcat : 1 ≤ (tab j').1) (hht : mht j' + 1 ≤ mht j) (hlo : 19 + (tab j').1 + mlo j' ≤ mlo j) (hrest : (rest.map catv).sum ≤ 8)
    (hX : XS l G D dA j' 0 (ini (tab j').1 [a_r r_z]) [] M Q2_z) (hdg : decode (mby j) pc = .ok (.invokevirtual idx_z, 3))
    (kk : ∀ (r_z : Option AV) (M' : Mem) (H1_z : Heap) (locs1 : List Loc) (kCells kSlots : Nat), Q2_z r_z M' → (∀ v_z, r_z = some v_z → okv v_z) → RelM G D dA s M' H1_z → va_S (aA G) s.heap H1_z locs1 → W p l e R s m args below meth c H1_z locs1 kCells kSlots Q (F0 m (pc + 3) ls ((r_z.map cv).toList ++ rest.map cv))) : W p l e R s m args below meth c H locs cells slots Q (F0 m pc ls (cv (a_r r_z) :: rest.map cv)) := by
  refine w_exact C0_z hR fun kC_z kS h1 h2 => ?_
  have hok : ∀ v_z ∈ [a_r r_z], okv v_z := fun v_z hv => by rw [List.mem_singleton.mp hv]; trivial
  have hM_z := xs_met hj hj2 hok hcat hX
  have hG := wsJ_good hj hj2
  have ho := List.all_eq_true.mp ordL_ok _ hm_z
  simp only [Bool.and_eq_true, decide_eq_true_eq] at ho
  obtain ⟨⟨⟨⟨⟨⟨⟨o1, -⟩, -⟩, o2⟩, o3_z⟩, o4_z⟩, o5_z⟩, o6⟩ := ho
  obtain ⟨a0_z, er⟩ := rel_r hR (show gK M r_z ≠ 0 by omega)
  subst er
  obtain ⟨-, cell_z, q1_z, q2_z, q3_z, q5_z, -⟩ := rel_ro (ci := 40) hR hK_z (Or.inl rfl)
  have hroom : (rmJ G M j').frames + 1 ≤ R.frames ∧ 8 + ((tab j').1 + 11) + (rmJ G M j').locals ≤ R.locals := by
    have := C0_z.hfr
    have := C0_z.hlo
    exact ⟨by show mht j' + 1 ≤ _; omega, by show 8 + ((tab j').1 + 11) + mlo j' ≤ _; omega⟩
  have hpre : ∀ U_z : State, U_z.heap = H → s.WarmedH U_z.vm → pcJ G D dA M [a_r (a0_z + 1)] (([a_r (a0_z + 1)] : List AV).map cv).toArray U_z := fun U_z hU hW2 => ⟨rfl, by rw [hU]; exact hR.moved hW2.alike, C0_z.hwk.warm hW2 (fun a_z ha_z hna => by rw [hU]; exact hS_z.2.1 a_z ha_z hna)⟩
  have fx : CallFix p m c (mby j) (tab j).1 s args gtbl (onm (mow j)) := ⟨C0_z.hex, C0_z.hby, C0_z.hml, C0_z.how, C0_z.hts⟩
  have hin : GoodIn gtbl (va_wsU (onm (mow j)) idx_z "PageInterpreter$Operator" "java/lang/Enum" ordX (mty j') (wsJ j')) := by
    intro w_z hw
    unfold va_wsU at hw
    rcases List.mem_append.mp hw with hw | hw
    · refine gtbl_good w_z ?_
      rw [o1] at hw
      simp only [List.mem_cons, List.not_mem_nil, or_false] at hw
      rcases hw with rfl | rfl | rfl | rfl | rfl
      · exact o2
      · exact o3_z
      · exact o4_z
      · exact o5_z
      · exact o6
    · exact hG w_z hw
  have hrun : va_Run p l e R s m args below meth c H locs kC_z kS (G.1 + 600000 - gz M) (7302249 - gs M) (F0 m pc ls (cv (a_r (a0_z + 1)) :: rest.map cv)) (rest.map cv) (QcS G D dA Q2_z (Value.ref a0_z :: ([] : List Value)).toArray) (aA G) :=
    va_runU (As := []) (C := "PageInterpreter$Operator") fx hM_z (va_cwU 0 C0_z.hts hin rfl rfl rfl (by rw [o1]; rfl) (by decide +kernel) hroom) ⟨pcJ_blind, ⟨cell_z, q1_z, q3_z, q5_z⟩, hpre⟩ rfl rfl hls rfl (by rw [sum_cv]; show 2 * 0 + _ ≤ 8; omega) hdg ⟨by omega, by omega⟩
  exact w_after hrun hS_z fun r_z M' H1_z locs1 g1 g2 g3_z g4 => kk r_z M' H1_z locs1 _ _ g1 g2 g3_z g4
theorem x_obi {idx_z r_z : Nat} (C0_z : CtxJ G D dA p R s m args meth c j) (hls : ls.size = (tab j).1) (hm_z : (mow j, idx_z) ∈ obiL) (hr0 : ¬ r_z = 0) (hfr : 1 ≤ mht j) (hlo : 20 ≤ mlo j) (hrest : (rest.map catv).sum ≤ 8) (hdg : decode (mby j) pc = .ok (.invokespecial idx_z, 3))
    (kk : W p l e R s m args below meth c H locs cells slots Q (F0 m (pc + 3) ls (rest.map cv))) : W p l e R s m args below meth c H locs cells slots Q (F0 m pc ls (cv (a_r r_z) :: rest.map cv)) := by
  have h1 := List.all_eq_true.mp obiL_ok _ hm_z
  rw [decide_eq_true_eq] at h1
  have h2 := obi_ok
  simp only [Bool.and_eq_true, decide_eq_true_eq] at h2
  have := C0_z.hfr
  have := C0_z.hlo
  obtain ⟨a0_z, er⟩ : ∃ a_z, r_z = a_z + 1 := ⟨r_z - 1, by omega⟩
  subst er
  exact W.objInit C0_z.hex C0_z.hby C0_z.how (C0_z.hts _ h1) (C0_z.hts _ h2.1) (C0_z.hts _ h2.2) rfl (by rw [C0_z.hml]; exact hls) rfl hdg (by omega) (by rw [sum_cv]; show 2 * 0 + _ + 12 ≤ _; omega) kk
/-- the end of a method -/
theorem x_ret {v_z : AV} {ins : Instr} {Q2_z : Option AV → Mem → Prop} (C0_z : CtxJ G D dA p R s m args meth c j) (hR : RelM G D dA s M H) (hS_z : va_S (aA G) s.heap H locs) (hq : Q2_z (some v_z) M) (hok : okv v_z) (hdg : decode (mby j) pc = .ok (ins, 1))
    (hk : (ins = .ireturn ∧ ∃ z_z ty_z, v_z = a_i z_z ∧ mre j = some ty_z ∧ narrow ty_z (.int (Int32.ofInt z_z)) = .int (Int32.ofInt z_z)) ∨ (ins = .lreturn ∧ mre j = some .long ∧ ∃ z_z, v_z = a_l z_z) ∨ (ins = .areturn ∧ (∃ z_z, v_z = a_r z_z) ∧ ∃ rt, mre j = some rt ∧ ((∃ n_z, rt = .object n_z) ∨ ∃ t_z, rt = .array t_z))) :
    W p l e R s m args below meth c H locs cells slots (MQ below (QcS G D dA Q2_z) args s R.cells R.slots (aA G)) (F0 m pc ls [cv v_z]) := by
  refine w_end C0_z hR ?_
  have hend : ∀ t_z : State, t_z.heap = H → s.WarmedH t_z.vm → QcS G D dA Q2_z args s (.returned (some (cv v_z))) t_z := fun t_z ht hW => ⟨⟨some v_z, M, rfl, hq, fun w_z hw => by cases hw; exact hok, by rw [ht]; exact hR.moved hW.alike⟩, hS_z.F ht⟩
  rcases hk with ⟨rfl, z_z, ty_z, rfl, h1, h2⟩ | ⟨rfl, h1, z_z, rfl⟩ | ⟨rfl, ⟨z_z, rfl⟩, rt, h1, h2⟩
  · exact W.zret C0_z.hex C0_z.hby (by rw [C0_z.hre]; exact h1) h2 hend hS_z.2.2 hdg C0_z.hlk
  · exact W.lret C0_z.hex C0_z.hby (by rw [C0_z.hre]; exact h1) hend hS_z.2.2 hdg C0_z.hlk
  · refine W.aret C0_z.hex C0_z.hby (by rw [C0_z.hre]; exact h1) h2 ?_ hend hS_z.2.2 hdg C0_z.hlk
    cases z_z with
    | zero => exact Or.inl rfl
    | succ z_z => exact Or.inr ⟨_, rfl⟩
theorem x_vret {Q2_z : Option AV → Mem → Prop} (C0_z : CtxJ G D dA p R s m args meth c j) (hR : RelM G D dA s M H) (hS_z : va_S (aA G) s.heap H locs) (hq : Q2_z none M) (hre : mre j = none) (hdg : decode (mby j) pc = .ok (.return_, 1)) :
    W p l e R s m args below meth c H locs cells slots (MQ below (QcS G D dA Q2_z) args s R.cells R.slots (aA G)) (F0 m pc ls []) := by
  refine w_end C0_z hR ?_
  exact W.vret C0_z.hex C0_z.hby (by rw [C0_z.hre]; exact hre) (fun t_z ht hW => ⟨⟨none, M, rfl, hq, fun w_z hw => (by cases hw), by rw [ht]; exact hR.moved hW.alike⟩, hS_z.F ht⟩) hS_z.2.2 hdg C0_z.hlk
end XR
