/-! THE SMALL MACHINE, part 6: a method's contract out of what its body does. Own work. -/
def XS (l : Launch) (G_z : Env0) (D_z : va_G) (dA : Nat → ClassId) : XT := fun j_z pc al_z st_z M_z Q_z =>
  ∀ (p_z : Program) (e_z : Env) (R_z : Room) (s_z : State) (m_z : MethodId) (args_z : Array Value) (below_z : List Frame) (meth_z : Method) (c_z : Code) (H_z : Heap) (locs_z : List Loc) (cells_z slots_z : Nat) (ls : Array Slot),
    CtxJ G_z D_z dA p_z R_z s_z m_z args_z meth_z c_z j_z → RelM G_z D_z dA s_z M_z H_z → va_S (aA G_z) s_z.heap H_z locs_z → RL (tab j_z).1 al_z ls → (∀ v ∈ st_z, okv v) →
      W p_z l e_z R_z s_z m_z args_z below_z meth_z c_z H_z locs_z cells_z slots_z (MQ below_z (QcS G_z D_z dA Q_z) args_z s_z R_z.cells R_z.slots (aA G_z)) (F0 m_z pc ls (st_z.map cv))
def rmJ (G_z : Env0) (M_z : Mem) (j_z : Nat) : Room := { frames := mht j_z, cells := G_z.1 + 600000 - gz M_z, slots := 7302249 - gs M_z, locals := mlo j_z }
def wsJ (j_z : Nat) : List Cond := Cond.code (mty j_z) (mby j_z) (tab j_z).1 (mre j_z) :: gtbl
def pcJ (G_z : Env0) (D_z : va_G) (dA : Nat → ClassId) (M_z : Mem) (as_z : List AV) : Array Value → State → Prop := va_Pc (as_z.map cv) (fun U_z => RelM G_z D_z dA U_z M_z U_z.heap ∧ WK G_z D_z dA U_z)
theorem met_ofW {l : Launch} {y_z : MethodName} {ws_z ws' : List Cond} {rm : Room} {Pc : Array Value → State → Prop} {Qc : Array Value → State → Outcome → State → Prop} {mc_z ms : Nat} {free_z : Addr → Prop} {cc : ByteArray} {maxL : Nat} {ret_z : Option FieldType}
    (hy : plainFor y_z = true) (hw : ws_z = Cond.code y_z cc maxL ret_z :: ws')
    (body_z : ∀ p_z e_z s_z m_z args_z below_z meth_z c_z s₁, BodyLoose p_z l y_z (headSpec ws_z rm) cc maxL ret_z e_z s_z m_z args_z below_z meth_z c_z s₁ → c_z.maxLocals = maxL → Pc args_z s_z →
      W p_z l e_z (headSpec ws_z rm).room s_z m_z args_z below_z meth_z c_z s_z.heap [] 0 0 (MQ below_z Qc args_z s_z mc_z ms free_z) (entryFrame m_z args_z maxL)) : Met l y_z ws_z rm Pc Qc mc_z ms free_z := by
  refine MetFree.of_bodyRF (code := cc) (maxLocals := maxL) (ret := ret_z) hy ?_ ?_
  · intro args_z s_z m_z h_z hn
    obtain ⟨meth_z, c_z, h1, h2, h3, h4, h5, h6, -, -⟩ := Cond.code_spec hn (atoms_spec (ws := ws_z) h_z _ (by rw [hw]; exact List.mem_cons_self))
    exact ⟨meth_z, c_z, h1, h2, h3, h4, h5, h6⟩
  · intro p_z e_z s_z m_z args_z below_z meth_z c_z s₁ B_z hml hP _ hst
    have hh0 : s₁.heap = s_z.heap := by rw [B_z.state]; rfl
    obtain ⟨t_z, a1_z, o, b1, b2, b3⟩ := body_z p_z e_z s_z m_z args_z below_z meth_z c_z s₁ B_z hml hP s₁ hh0 (Stand.of_body B_z)
    exact ⟨t_z, o, hst.trans a1_z, b1, b2, ⟨b3.1, b3.2⟩⟩
theorem sl_len : ∀ (as_z : List AV), (lg_sl (as_z.map cv)).length = (as_z.map catv).sum
  | [] => rfl
  | v_z :: as_z => by
    have ih_z := sl_len as_z
    have e1_z := cv_cat v_z
    unfold lg_sl at ih_z ⊢
    rw [List.map_cons, List.flatMap_cons, List.length_append, ih_z, List.map_cons, List.sum_cons]
    congr 1
    rcases v_z with z_z | z_z | r_z | u_z
    · rfl
    · rfl
    · cases r_z <;> rfl
    · rfl
theorem xs_met {l : Launch} {G_z : Env0} {D_z : va_G} {dA : Nat → ClassId} {j_z : Nat} {as_z : List AV} {M_z : Mem} {Q_z : Option AV → Mem → Prop} (hj : 0 < j_z) (hj2 : j_z < 260) (hok : ∀ v_z ∈ as_z, okv v_z) (hlen : (as_z.map catv).sum ≤ (tab j_z).1) (hX : XS l G_z D_z dA j_z 0 (ini (tab j_z).1 as_z) [] M_z Q_z) :
    Met l (mty j_z) (wsJ j_z) (rmJ G_z M_z j_z) (pcJ G_z D_z dA M_z as_z) (QcS G_z D_z dA Q_z) (G_z.1 + 600000 - gz M_z) (7302249 - gs M_z) (aA G_z) := by
  refine met_ofW (mcp_ok j_z hj hj2).2 (show wsJ j_z = Cond.code (mty j_z) (mby j_z) (tab j_z).1 (mre j_z) :: gtbl from rfl) ?_
  intro p_z e_z s_z m_z args_z below_z meth_z c_z s₁ B_z hml hv
  obtain ⟨rfl, hR, hK_z⟩ := hv
  have hts := atoms_spec (ws := wsJ j_z) B_z.pre
  have hown : s_z.vm.findClass (mty j_z).cls = some m_z.cls := findClass_of_methodNamed B_z.named
  have hl := lv_entry (as_z.map cv) (n := (tab j_z).1) (by rw [sl_len]; exact hlen)
  rw [lg_entry_eq]
  generalize (lg_sl (as_z.map cv) ++ List.replicate ((tab j_z).1 - (lg_sl (as_z.map cv)).length) Slot.unset).toArray = ls at hl ⊢
  obtain ⟨r1_z, r2, r3, r4, r5_z, r6⟩ := id hR
  have hC : CtxJ G_z D_z dA p_z (rmJ G_z M_z j_z) s_z m_z (as_z.map cv).toArray meth_z c_z j_z := by
    refine ⟨B_z.exec, B_z.bytes, hml, B_z.returns, B_z.notSynchronized, fun hq => (name_of_methodNamed B_z.named B_z.method).1.trans hq, ?_, fun w_z hw => hts w_z (List.mem_cons_of_mem _ hw), hK_z, Nat.le_refl _, Nat.le_refl _, ?_, ?_, r3⟩
    · rw [← mow_ok j_z hj hj2]; exact hown
    · show s_z.heap.size + (G_z.1 + 600000 - gz M_z) = _
      omega
    · show (7302249 - gs M_z) + _ = _
      omega
  exact hX p_z e_z (rmJ G_z M_z j_z) s_z m_z _ below_z meth_z c_z s_z.heap [] 0 0 ls hC hR va_S.rf (RL.ini hok hl) (fun v_z h_z => absurd h_z List.not_mem_nil)
theorem WK.warm {G_z : Env0} {D_z : va_G} {dA : Nat → ClassId} {s_z U_z : State} (h_z : WK G_z D_z dA s_z) (hW : s_z.WarmedH U_z.vm) (hH : ∀ a_z : Nat, a_z < s_z.heap.size → ¬ aA G_z a_z → U_z.heap[a_z]? = s_z.heap[a_z]?) : WK G_z D_z dA U_z := by
  obtain ⟨h1, h2, h3, h4⟩ := h_z
  refine ⟨va_K.moved hW.alike h1, fun w_z hw => ?_, fun i_z hi_z => ((h3 i_z hi_z).moved hW.alike).kept hH, (h4.moved hW.alike).kept hH⟩
  have h5 := h2 w_z hw
  have h6 := (List.mem_filter.mp hw).2
  cases w_z <;> simp [isNest] at h6
  case methodLinkNest => exact va_Nw.warmM hW h5
  case fieldLinkNest => exact va_Nw.warmF hW h5
  case declares => exact va_Nw.warmD hW h5
  case arrayOver t =>
    cases t <;> simp at h6
    exact va_AO.moved hW.alike h5
theorem pcJ_blind {G_z : Env0} {D_z : va_G} {dA : Nat → ClassId} {M_z : Mem} {as_z : List AV} : FrameBlind (pcJ G_z D_z dA M_z as_z) := by
  intro a_z U_z g_z mk q_z
  obtain ⟨q1_z, q2_z, q3_z, q4_z, q5_z, q6_z⟩ := q_z
  have hal : U_z.vm.Alike (U_z.calling g_z mk a_z).vm := Vm.Alike.refl U_z.vm
  refine ⟨q1_z, q2_z.moved hal, va_K.moved hal q3_z, fun w_z hw => ?_, fun i_z hi_z => (q5_z i_z hi_z).moved hal, q6_z.moved hal⟩
  have h5 := q4_z w_z hw
  have h6 := (List.mem_filter.mp hw).2
  cases w_z <;> simp [isNest] at h6
  case methodLinkNest => exact va_Nw.same rfl rfl h5
  case fieldLinkNest => exact va_Nw.same rfl rfl h5
  case declares => exact va_Nw.same rfl rfl h5
  case arrayOver t =>
    cases t <;> simp at h6
    exact va_AO.moved hal h5
theorem gtbl_good : GoodIn gtbl gtbl := fun w_z hw => ⟨hw, good_of_word (List.mem_filter.mp hw).2⟩
theorem wsJ_good {j_z : Nat} (hj : 0 < j_z) (hj2 : j_z < 260) : GoodIn gtbl (wsJ j_z) := fun w_z hw => (List.mem_cons.mp hw).elim (fun q_z => by rw [q_z]; exact gtbl_good _ (mcp_ok j_z hj hj2).1) (fun q_z => gtbl_good w_z q_z)
