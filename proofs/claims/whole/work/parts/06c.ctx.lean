/-! THE SMALL MACHINE, part 6: a method's frame, and what a heap row keeps. Own work. -/
/-- what is known in the body of method j_z -/
def CtxJ (G_z : Env0) (D_z : va_G) (dA : Nat → ClassId) (p_z : Program) (R_z : Room) (s_z : State) (m_z : MethodId) (args_z : Array Value) (meth_z : Method) (c_z : Code) (j_z : Nat) : Prop :=
  p_z.tables.exec = Jvm.exec ∧ c_z.code = mby j_z ∧ c_z.maxLocals = (tab j_z).1 ∧ meth_z.sig.returnType = mre j_z ∧ meth_z.locks = false ∧ ((mty j_z).name = "<init>" → meth_z.name = "<init>") ∧ s_z.vm.findClass (onm (mow j_z)) = some m_z.cls ∧
  (∀ w ∈ gtbl, w.before args_z s_z = true) ∧ WK G_z D_z dA s_z ∧ mht j_z ≤ R_z.frames ∧ mlo j_z ≤ R_z.locals ∧ s_z.heap.size + R_z.cells = G_z.1 + 600000 ∧ R_z.slots + hsum G_z.1 s_z.heap = 7302249 ∧ G_z.1 ≤ s_z.heap.size
/-- a method's end -/
def QcS (G_z : Env0) (D_z : va_G) (dA : Nat → ClassId) (Q_z : Option AV → Mem → Prop) : Array Value → State → Outcome → State → Prop := fun _ st_z oc t_z =>
  (∃ (r_z : Option AV) (M' : Mem), oc = .returned (r_z.map cv) ∧ Q_z r_z M' ∧ (∀ v_z, r_z = some v_z → okv v_z) ∧ RelM G_z D_z dA t_z M' t_z.heap) ∧ va_F (aA G_z) st_z t_z
section WS
variable {p : Program} {l : Launch} {e : Env} {R : Room} {s : State} {m : MethodId} {args : Array Value} {below : List Frame} {meth : Method} {c : Code} {H : Heap} {locs : List Loc} {cells slots : Nat} {Q : State → Prop}
variable {G : Env0} {D : va_G} {dA : Nat → ClassId} {j : Nat} {M : Mem}
/-- the counts are what the heap says -/
theorem w_nar {kCells kSlots : Nat} (h1 : H.size ≤ s.heap.size + kCells) (h2 : hsum s.heap.size H ≤ kSlots) {g_z : JFrame} (k_z : W p l e R s m args below meth c H locs kCells kSlots Q g_z) : W p l e R s m args below meth c H locs cells slots Q g_z := by
  intro T hT_z X_z
  refine k_z T hT_z { X_z with same := ?_ }
  obtain ⟨e1_z, e2_z, e3_z, e4_z, e5_z, e6_z⟩ := X_z.same
  refine ⟨e1_z, e2_z, ?_, e4_z, ?_, e6_z⟩
  · show T.heap.size ≤ _
    rw [hT_z]; exact h1
  · show ((T.heap.toList.drop s.heap.size).map (·.slots.size)).sum ≤ _
    rw [hT_z]; exact h2
theorem w_sizes {g_z : JFrame} (k_z : (∀ a_z : Nat, a_z < s.heap.size → (H[a_z]?).map (·.slots.size) = (s.heap[a_z]?).map (·.slots.size)) → s.heap.size ≤ H.size → W p l e R s m args below meth c H locs cells slots Q g_z) : W p l e R s m args below meth c H locs cells slots Q g_z := by
  intro T hT_z X_z
  obtain ⟨e1_z, e2_z, e3_z, e4_z, e5_z, e6_z⟩ := X_z.same
  refine k_z (fun a_z ha_z => ?_) (by rw [← hT_z]; exact e2_z) T hT_z X_z
  have hc_z : s.heap[a_z]? = some s.heap[a_z] := Array.getElem?_eq_getElem ha_z
  obtain ⟨c', g1, g2, g3_z, -⟩ := e6_z a_z _ hc_z
  rw [hc_z, ← hT_z]
  show ((T.setVm s.vm).heap[a_z]?).map _ = _
  rw [g1]
  simp [g3_z]
/-- exact counts: what is left of the room is what is left of the whole room -/
theorem w_exact (C0_z : CtxJ G D dA p R s m args meth c j) (hR : RelM G D dA s M H) {g_z : JFrame} (k_z : ∀ (C'_z S' : Nat), C'_z + (G.1 + 600000 - gz M) = R.cells → S' + (7302249 - gs M) = R.slots → W p l e R s m args below meth c H locs C'_z S' Q g_z) : W p l e R s m args below meth c H locs cells slots Q g_z := by
  refine w_sizes fun hs hz => ?_
  obtain ⟨-, -, -, -, -, -, -, -, -, -, -, c1_z, c2_z, c3_z⟩ := C0_z
  obtain ⟨r1_z, r2, r3, r4, r5_z, -⟩ := hR
  have h3 := hsum_split c3_z hz hs
  exact w_nar (kCells := H.size - s.heap.size) (kSlots := hsum s.heap.size H) (by omega) (Nat.le_refl _) (k_z (H.size - s.heap.size) (hsum s.heap.size H) (by omega) (by omega))
/-- the whole room: for the method's end -/
theorem w_end (C0_z : CtxJ G D dA p R s m args meth c j) (hR : RelM G D dA s M H) {g_z : JFrame} (k_z : W p l e R s m args below meth c H locs R.cells R.slots Q g_z) : W p l e R s m args below meth c H locs cells slots Q g_z := by
  refine w_exact C0_z hR fun C'_z S' h1 h2 => ?_
  refine w_sizes fun hs hz => ?_
  obtain ⟨-, -, -, -, -, -, -, -, -, -, -, c1_z, c2_z, c3_z⟩ := C0_z
  obtain ⟨r1_z, r2, r3, r4, r5_z, -⟩ := hR
  have h3 := hsum_split c3_z hz hs
  exact w_nar (kCells := R.cells) (kSlots := R.slots) (by omega) (by omega) k_z
end WS
theorem RelM.at {G_z : Env0} {D_z : va_G} {dA : Nat → ClassId} {s_z : State} {M_z : Mem} {H_z : Heap} (h_z : RelM G_z D_z dA s_z M_z H_z) (a_z : Nat) : cellOk G_z D_z dA s_z M_z H_z a_z := h_z.2.2.2.2.2.2.2 a_z
theorem RelM.rng {G_z : Env0} {D_z : va_G} {dA : Nat → ClassId} {s_z : State} {M_z : Mem} {H_z : Heap} (h_z : RelM G_z D_z dA s_z M_z H_z) (r_z : Nat) (k_z : Int) : inI (gI M_z r_z k_z) ∧ inL (gL M_z r_z k_z) := h_z.2.2.2.2.2.1 r_z k_z
/-- a_z change at one cell -/
theorem RelM.put {G_z : Env0} {D_z : va_G} {dA : Nat → ClassId} {s_z : State} {M_z M' : Mem} {H_z H' : Heap} (h_z : RelM G_z D_z dA s_z M_z H_z) {a_z : Nat} (hz : H'.size = H_z.size) (hq : ∀ q_z : Nat, q_z ≠ a_z → H'[q_z]? = H_z[q_z]?) (hs : (H'[a_z]?).map (·.slots.size) = (H_z[a_z]?).map (·.slots.size))
    (hm_z : ∀ r_z, r_z ≠ a_z + 1 → agr M_z M' r_z) (ez : gz M' = gz M_z) (es : gs M' = gs M_z) (hr : ∀ k_z, inI (gI M' (a_z + 1) k_z) ∧ inL (gL M' (a_z + 1) k_z)) (hc_z : cellOk G_z D_z dA s_z M' H' a_z) : RelM G_z D_z dA s_z M' H' := by
  obtain ⟨r1_z, r2, r3, r4, r5_z, r6, r7, r8⟩ := h_z
  refine ⟨by rw [ez, hz]; exact r1_z, ?_, by rw [hz]; exact r3, by rw [ez]; exact r4, by rw [es]; exact r5_z, fun r_z k_z => ?_, ?_, fun b_z => ?_⟩
  · rw [es, r2]
    symm
    refine hsum_eq hz fun b_z => ?_
    by_cases hb_z : b_z = a_z
    · rw [hb_z]; exact hs
    · rw [hq b_z hb_z]
  · by_cases hb_z : r_z = a_z + 1
    · rw [hb_z]; exact hr k_z
    · rw [(hm_z r_z hb_z).2.2.1, (hm_z r_z hb_z).2.2.2.1]; exact r6 r_z k_z
  · rw [(hm_z 0 (by omega)).1]; exact r7
  · by_cases hb_z : b_z = a_z
    · rw [hb_z]; exact hc_z
    · exact (r8 b_z).kept (hm_z (b_z + 1) (by omega)) (hq b_z hb_z)
/-- a new cell_z -/
theorem RelM.push {G_z : Env0} {D_z : va_G} {dA : Nat → ClassId} {s_z : State} {M_z M' : Mem} {H_z H' : Heap} (h_z : RelM G_z D_z dA s_z M_z H_z) {cell_z : Cell} {n_z : Nat} (hz : H'.size = H_z.size + 1) (hc_z : H'[H_z.size]? = some cell_z) (hn : cell_z.slots.size = n_z) (hq : ∀ q_z : Nat, q_z < H_z.size → H'[q_z]? = H_z[q_z]?)
    (hroom : roomOk G_z M_z n_z) (hm_z : ∀ r_z, r_z ≠ gz M_z + 1 → agr M_z M' r_z) (ez : gz M' = gz M_z + 1) (es : gs M' = gs M_z + n_z) (hr : ∀ k_z, inI (gI M' (gz M_z + 1) k_z) ∧ inL (gL M' (gz M_z + 1) k_z)) (hk : cellOk G_z D_z dA s_z M' H' H_z.size) : RelM G_z D_z dA s_z M' H' := by
  obtain ⟨r1_z, r2, r3, r4, r5_z, r6, r7, r8⟩ := h_z
  refine ⟨by rw [ez, hz, r1_z], ?_, by rw [hz]; omega, by rw [ez]; exact hroom.1, by rw [es]; exact hroom.2, fun r_z k_z => ?_, ?_, fun b_z => ?_⟩
  · rw [es, r2, hsum_push r3 hz hc_z hq, hn]
  · by_cases hb_z : r_z = gz M_z + 1
    · rw [hb_z]; exact hr k_z
    · rw [(hm_z r_z hb_z).2.2.1, (hm_z r_z hb_z).2.2.2.1]; exact r6 r_z k_z
  · rw [(hm_z 0 (by omega)).1]; exact r7
  · by_cases hb_z : b_z = H_z.size
    · rw [hb_z]; exact hk
    · by_cases hl : b_z < H_z.size
      · exact (r8 b_z).kept (hm_z (b_z + 1) (by omega)) (hq b_z hl)
      · refine Or.inl ?_
        rw [(hm_z (b_z + 1) (by omega)).1]
        rcases r8 b_z with h0 | ⟨ci, h1, h2, h3, h4⟩ | ⟨ci, h1, h2, h3, h4⟩ | ⟨h1, h2, h3⟩ | ⟨h1, h2, h3⟩ | ⟨h1, h2, h3⟩ | ⟨h1, h2, h3⟩ | ⟨h1, h2, h3⟩ | ⟨kd, h1, h2, h3, h4, h5, h6⟩ | ⟨h1, h2, h3⟩
        · exact h0
        · obtain ⟨cell2, g1, -⟩ := h4
          exact absurd (Array.getElem?_eq_some_iff.mp g1).1 hl
        · omega
        · obtain ⟨n2_z, -, -, g1⟩ := h3
          exact absurd (Array.getElem?_eq_some_iff.mp g1).1 hl
        · obtain ⟨n2_z, -, -, g1⟩ := h3
          exact absurd (Array.getElem?_eq_some_iff.mp g1).1 hl
        · obtain ⟨n2_z, -, -, g1⟩ := h3
          exact absurd (Array.getElem?_eq_some_iff.mp g1).1 hl
        · omega
        · omega
        · obtain ⟨n2_z, -, -, g1⟩ := h6
          exact absurd (Array.getElem?_eq_some_iff.mp g1).1 hl
        · omega
theorem agr_uI {M_z : Mem} {r_z : Nat} {k_z v_z : Int} {r' : Nat} (h_z : r' ≠ r_z) : agr M_z (uI M_z r_z k_z v_z) r' := ⟨rfl, rfl, fun j_z => by rw [gI_uI, if_neg (fun q_z => h_z q_z.1)], fun _ => rfl, fun _ => rfl⟩
theorem agr_uL {M_z : Mem} {r_z : Nat} {k_z v_z : Int} {r' : Nat} (h_z : r' ≠ r_z) : agr M_z (uL M_z r_z k_z v_z) r' := ⟨rfl, rfl, fun _ => rfl, fun j_z => by rw [gL_uL, if_neg (fun q_z => h_z q_z.1)], fun _ => rfl⟩
theorem agr_uR {M_z : Mem} {r_z : Nat} {k_z : Int} {v_z : Nat} {r' : Nat} (h_z : r' ≠ r_z) : agr M_z (uR M_z r_z k_z v_z) r' := ⟨rfl, rfl, fun _ => rfl, fun _ => rfl, fun j_z => by rw [gR_uR, if_neg (fun q_z => h_z q_z.1)]⟩
theorem agr_uN {M_z : Mem} {kd : Nat} {n_z : Int} {ns : Nat} {r' : Nat} (h_z : r' ≠ gz M_z + 1) : agr M_z (uN M_z kd n_z ns) r' := ⟨by rw [gK_uN, if_neg h_z], by rw [gN_uN, if_neg h_z], fun j_z => by rw [gI_uN, if_neg h_z], fun j_z => by rw [gL_uN, if_neg h_z], fun j_z => by rw [gR_uN, if_neg h_z]⟩
theorem agr_uCI {M_z : Mem} {a_z : Nat} {i_z : Int} {b_z : Nat} {j_z n_z : Int} {r' : Nat} (h_z : r' ≠ a_z) : agr M_z (uCI M_z a_z i_z b_z j_z n_z) r' := ⟨rfl, rfl, fun k_z => by rw [gI_uCI, if_neg (fun q_z => h_z q_z.1)], fun _ => rfl, fun _ => rfl⟩
theorem agr_uCL {M_z : Mem} {a_z : Nat} {i_z : Int} {b_z : Nat} {j_z n_z : Int} {r' : Nat} (h_z : r' ≠ a_z) : agr M_z (uCL M_z a_z i_z b_z j_z n_z) r' := ⟨rfl, rfl, fun _ => rfl, fun k_z => by rw [gL_uCL, if_neg (fun q_z => h_z q_z.1)], fun _ => rfl⟩
