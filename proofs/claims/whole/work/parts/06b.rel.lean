/-! THE SMALL MACHINE, part 6: memory and the machine's heap. Own work. -/
abbrev aA (G_z : Env0) : Nat → Prop := fun q_z => G_z.1 ≤ q_z
def hsum (lo_z : Nat) (H_z : Heap) : Nat := ((H_z.toList.drop lo_z).map (·.slots.size)).sum
/-- an object that nobody writes -/
def roObj (ci : Nat) (s_z : State) (M_z : Mem) (H_z : Heap) (a_z : Nat) : Prop :=
  ∃ cell_z : Cell, H_z[a_z]? = some cell_z ∧ cell_z.vm ≠ .unknown ∧ cell_z.vm.isStatics = false ∧ s_z.vm.findClass (rR ci) = some cell_z.cls ∧
    ∀ k_z, k_z < rN ci → ∃ (cf_z : ClassId) (kf : Class) (i_z : Nat) (f_z : Field), s_z.fieldFound? (rT ci k_z).1 (rT ci k_z).2.1 (rT ci k_z).2.2 = some (cf_z, kf, i_z, f_z) ∧ f_z.isStatic = false ∧ cell_z.slots[f_z.slot]? = some (cv (fld (rtag ci k_z) M_z (a_z + 1) k_z))
/-- a_z row that nobody writes -/
def roArr (s_z : State) (M_z : Mem) (H_z : Heap) (a_z : Nat) (ty_z : FieldType) (vf : Nat → Value) : Prop :=
  ∃ (n_z : Nat) (cell_z : Cell), gN M_z (a_z + 1) = n_z ∧ n_z ≤ 1000000 ∧ H_z[a_z]? = some cell_z ∧ s_z.isArrayOf cell_z ty_z ∧ cell_z.vm ≠ .unknown ∧ cell_z.slots.size = n_z ∧ ∀ j_z, j_z < n_z → cell_z.slots[j_z]? = some (vf j_z)
def rwArr (dA : Nat → ClassId) (kd : Nat) (M_z : Mem) (H_z : Heap) (a_z : Nat) (vf : Nat → Value) : Prop :=
  ∃ n_z : Nat, gN M_z (a_z + 1) = n_z ∧ n_z ≤ 1000000 ∧ H_z[a_z]? = some (arrV (dA kd) n_z vf)
def vfI (M_z : Mem) (r_z : Nat) : Nat → Value := fun j_z => .int (Int32.ofInt (gI M_z r_z j_z))
def vfL (M_z : Mem) (r_z : Nat) : Nat → Value := fun j_z => .long (Int64.ofInt (gL M_z r_z j_z))
def vfR (M_z : Mem) (r_z : Nat) : Nat → Value := fun j_z => cv (a_r (gR M_z r_z j_z))
def cellOk (G_z : Env0) (D_z : va_G) (dA : Nat → ClassId) (s_z : State) (M_z : Mem) (H_z : Heap) (a_z : Nat) : Prop :=
  gK M_z (a_z + 1) = 0 ∨
  (∃ ci, gK M_z (a_z + 1) = ci + 1 ∧ ci < 11 ∧ G_z.1 ≤ a_z ∧ t_OB a_z (D_z.1 ci) (kN ci) (D_z.2 ci) H_z (fun k_z => cv (fld (ktag (kT ci k_z).2.2.1) M_z (a_z + 1) k_z))) ∨
  (∃ ci, gK M_z (a_z + 1) = ci + 1 ∧ (ci = 40 ∨ ci = 41) ∧ a_z < G_z.1 ∧ roObj ci s_z M_z H_z a_z) ∨
  (gK M_z (a_z + 1) = 100 ∧ G_z.1 ≤ a_z ∧ rwArr dA 100 M_z H_z a_z (vfI M_z (a_z + 1))) ∨
  (gK M_z (a_z + 1) = 101 ∧ G_z.1 ≤ a_z ∧ rwArr dA 101 M_z H_z a_z (vfL M_z (a_z + 1))) ∨
  (gK M_z (a_z + 1) = 102 ∧ G_z.1 ≤ a_z ∧ rwArr dA 102 M_z H_z a_z (vfI M_z (a_z + 1))) ∨
  (gK M_z (a_z + 1) = 104 ∧ a_z < G_z.1 ∧ roArr s_z M_z H_z a_z .int (vfI M_z (a_z + 1))) ∨
  (gK M_z (a_z + 1) = 105 ∧ a_z < G_z.1 ∧ roArr s_z M_z H_z a_z .byte (vfI M_z (a_z + 1))) ∨
  (∃ kd, gK M_z (a_z + 1) = kd ∧ 110 ≤ kd ∧ kd < 250 ∧ (kd, FieldType.object (elR kd)) ∈ tyA ∧ G_z.1 ≤ a_z ∧ rwArr dA kd M_z H_z a_z (vfR M_z (a_z + 1))) ∨
  (gK M_z (a_z + 1) = 250 ∧ a_z < G_z.1 ∧ roArr s_z M_z H_z a_z (.object (rR 40)) (vfR M_z (a_z + 1)))
def RelM (G_z : Env0) (D_z : va_G) (dA : Nat → ClassId) (s_z : State) (M_z : Mem) (H_z : Heap) : Prop :=
  gz M_z = H_z.size ∧ gs M_z = hsum G_z.1 H_z ∧ G_z.1 ≤ H_z.size ∧ gz M_z ≤ G_z.1 + 600000 ∧ gs M_z ≤ 7302249 ∧ (∀ r_z k_z, inI (gI M_z r_z k_z) ∧ inL (gL M_z r_z k_z)) ∧ gK M_z 0 = 0 ∧ ∀ a_z, cellOk G_z D_z dA s_z M_z H_z a_z
def tysOf (dA : Nat → ClassId) : List (ClassId × FieldType) := tyA.map (fun q_z => (dA q_z.1, q_z.2))
/-- what holds of the tables and statics, at any state of a run -/
def WK (G_z : Env0) (D_z : va_G) (dA : Nat → ClassId) (U_z : State) : Prop :=
  va_K D_z kcl (tysOf dA) U_z ∧ (∀ w ∈ ntbl, w.before #[] U_z = true) ∧ (∀ i_z, i_z < 26 → va_Z (stN i_z).1 (stN i_z).2.1 (stN i_z).2.2 (cv (a_r (G_z.2 i_z))) (aA G_z) U_z U_z.heap) ∧ va_Z stiN.1 stiN.2.1 stiN.2.2 (.int 1) (aA G_z) U_z U_z.heap
/-- two memories agree at one place -/
def agr (M_z M' : Mem) (r_z : Nat) : Prop := gK M' r_z = gK M_z r_z ∧ gN M' r_z = gN M_z r_z ∧ (∀ k_z, gI M' r_z k_z = gI M_z r_z k_z) ∧ (∀ k_z, gL M' r_z k_z = gL M_z r_z k_z) ∧ (∀ k_z, gR M' r_z k_z = gR M_z r_z k_z)
theorem fld_mt (b_z : Nat) (M_z : Mem) (r_z : Nat) (k_z : Int) : fld b_z M_z r_z k_z = (match b_z with | 1 => a_l (gL M_z r_z k_z) | 2 => a_r (gR M_z r_z k_z) | _ => a_i (gI M_z r_z k_z)) := rfl
theorem agr.fld {M_z M' : Mem} {r_z : Nat} (h_z : agr M_z M' r_z) (b_z : Nat) (k_z : Int) : fld b_z M' r_z k_z = fld b_z M_z r_z k_z := by
  obtain ⟨h1, h2, h3, h4, h5⟩ := h_z
  rw [fld_mt, fld_mt]
  split
  · rw [h4]
  · rw [h5]
  · rw [h3]
theorem agr.vI {M_z M' : Mem} {r_z : Nat} (h_z : agr M_z M' r_z) : vfI M' r_z = vfI M_z r_z := by
  funext j
  unfold vfI
  rw [h_z.2.2.1]
theorem agr.vL {M_z M' : Mem} {r_z : Nat} (h_z : agr M_z M' r_z) : vfL M' r_z = vfL M_z r_z := by
  funext j
  unfold vfL
  rw [h_z.2.2.2.1]
theorem agr.vR {M_z M' : Mem} {r_z : Nat} (h_z : agr M_z M' r_z) : vfR M' r_z = vfR M_z r_z := by
  funext j
  unfold vfR
  rw [h_z.2.2.2.2]
theorem roObj.kept {ci : Nat} {s_z : State} {M_z M' : Mem} {H_z H' : Heap} {a_z : Nat} (hm_z : agr M_z M' (a_z + 1)) (hq : H'[a_z]? = H_z[a_z]?) (h_z : roObj ci s_z M_z H_z a_z) : roObj ci s_z M' H' a_z := by
  obtain ⟨cell_z, h1, h2, h3, h4, h5⟩ := h_z
  refine ⟨cell_z, by rw [hq]; exact h1, h2, h3, h4, fun k_z hk => ?_⟩
  obtain ⟨cf_z, kf, i_z, f_z, g1, g2, g3_z⟩ := h5 k_z hk
  exact ⟨cf_z, kf, i_z, f_z, g1, g2, by rw [hm_z.fld]; exact g3_z⟩
theorem roArr.kept {s_z : State} {M_z M' : Mem} {H_z H' : Heap} {a_z : Nat} {ty_z : FieldType} {vf : Nat → Value} (hm_z : agr M_z M' (a_z + 1)) (hq : H'[a_z]? = H_z[a_z]?) (h_z : roArr s_z M_z H_z a_z ty_z vf) : roArr s_z M' H' a_z ty_z vf := by
  obtain ⟨n_z, cell_z, h1, h2, h3, h4⟩ := h_z
  exact ⟨n_z, cell_z, by rw [hm_z.2.1]; exact h1, h2, by rw [hq]; exact h3, h4⟩
theorem rwArr.kept {dA : Nat → ClassId} {kd : Nat} {M_z M' : Mem} {H_z H' : Heap} {a_z : Nat} {vf : Nat → Value} (hm_z : agr M_z M' (a_z + 1)) (hq : H'[a_z]? = H_z[a_z]?) (h_z : rwArr dA kd M_z H_z a_z vf) : rwArr dA kd M' H' a_z vf := by
  obtain ⟨n_z, h1, h2, h3⟩ := h_z
  exact ⟨n_z, by rw [hm_z.2.1]; exact h1, h2, by rw [hq]; exact h3⟩
theorem cellOk.kept {G_z : Env0} {D_z : va_G} {dA : Nat → ClassId} {s_z : State} {M_z M' : Mem} {H_z H' : Heap} {a_z : Nat} (hm_z : agr M_z M' (a_z + 1)) (hq : H'[a_z]? = H_z[a_z]?) (h_z : cellOk G_z D_z dA s_z M_z H_z a_z) : cellOk G_z D_z dA s_z M' H' a_z := by
  unfold cellOk at h_z ⊢
  rw [hm_z.1, hm_z.vI, hm_z.vL, hm_z.vR]
  rcases h_z with h_z | ⟨ci, h1, h2, h3, h4⟩ | ⟨ci, h1, h2, h3, h4⟩ | ⟨h1, h2, h3⟩ | ⟨h1, h2, h3⟩ | ⟨h1, h2, h3⟩ | ⟨h1, h2, h3⟩ | ⟨h1, h2, h3⟩ | ⟨kd, h1, h2, h3, h4, h5, h6⟩ | ⟨h1, h2, h3⟩
  · exact Or.inl h_z
  · exact Or.inr (Or.inl ⟨ci, h1, h2, h3, (h4.kept hq).to (fun k_z _ => by rw [hm_z.fld])⟩)
  · exact Or.inr (Or.inr (Or.inl ⟨ci, h1, h2, h3, h4.kept hm_z hq⟩))
  · exact Or.inr (Or.inr (Or.inr (Or.inl ⟨h1, h2, h3.kept hm_z hq⟩)))
  · exact Or.inr (Or.inr (Or.inr (Or.inr (Or.inl ⟨h1, h2, h3.kept hm_z hq⟩))))
  · exact Or.inr (Or.inr (Or.inr (Or.inr (Or.inr (Or.inl ⟨h1, h2, h3.kept hm_z hq⟩)))))
  · exact Or.inr (Or.inr (Or.inr (Or.inr (Or.inr (Or.inr (Or.inl ⟨h1, h2, h3.kept hm_z hq⟩))))))
  · exact Or.inr (Or.inr (Or.inr (Or.inr (Or.inr (Or.inr (Or.inr (Or.inl ⟨h1, h2, h3.kept hm_z hq⟩)))))))
  · exact Or.inr (Or.inr (Or.inr (Or.inr (Or.inr (Or.inr (Or.inr (Or.inr (Or.inl ⟨kd, h1, h2, h3, h4, h5, h6.kept hm_z hq⟩))))))))
  · exact Or.inr (Or.inr (Or.inr (Or.inr (Or.inr (Or.inr (Or.inr (Or.inr (Or.inr ⟨h1, h2, h3.kept hm_z hq⟩))))))))
theorem roObj.moved {ci : Nat} {u_z s_z : State} (hvm : u_z.vm.Alike s_z.vm) {M_z : Mem} {H_z : Heap} {a_z : Nat} (h_z : roObj ci u_z M_z H_z a_z) : roObj ci s_z M_z H_z a_z := by
  obtain ⟨cell_z, h1, h2, h3, h4, h5⟩ := h_z
  refine ⟨cell_z, h1, h2, h3, by rw [hvm.findClass]; exact h4, fun k_z hk => ?_⟩
  obtain ⟨cf_z, kf, i_z, f_z, g1, g2, g3_z⟩ := h5 k_z hk
  obtain ⟨k', hi', he⟩ := State.fieldFound?_setVm hvm g1
  exact ⟨cf_z, k', i_z, f_z, hi', g2, g3_z⟩
theorem roArr.moved {u_z s_z : State} (hvm : u_z.vm.Alike s_z.vm) {M_z : Mem} {H_z : Heap} {a_z : Nat} {ty_z : FieldType} {vf : Nat → Value} (h_z : roArr u_z M_z H_z a_z ty_z vf) : roArr s_z M_z H_z a_z ty_z vf := by
  obtain ⟨n_z, cell_z, h1, h2, h3, h4, h5⟩ := h_z
  exact ⟨n_z, cell_z, h1, h2, h3, State.isArrayOf_alike hvm h4, h5⟩
theorem cellOk.moved {G_z : Env0} {D_z : va_G} {dA : Nat → ClassId} {u_z s_z : State} (hvm : u_z.vm.Alike s_z.vm) {M_z : Mem} {H_z : Heap} {a_z : Nat} (h_z : cellOk G_z D_z dA u_z M_z H_z a_z) : cellOk G_z D_z dA s_z M_z H_z a_z := by
  unfold cellOk at h_z ⊢
  rcases h_z with h_z | ⟨ci, h1, h2, h3, h4⟩ | ⟨ci, h1, h2, h3, h4⟩ | ⟨h1, h2, h3⟩ | ⟨h1, h2, h3⟩ | ⟨h1, h2, h3⟩ | ⟨h1, h2, h3⟩ | ⟨h1, h2, h3⟩ | ⟨kd, h1, h2, h3, h4, h5, h6⟩ | ⟨h1, h2, h3⟩
  · exact Or.inl h_z
  · exact Or.inr (Or.inl ⟨ci, h1, h2, h3, h4⟩)
  · exact Or.inr (Or.inr (Or.inl ⟨ci, h1, h2, h3, h4.moved hvm⟩))
  · exact Or.inr (Or.inr (Or.inr (Or.inl ⟨h1, h2, h3⟩)))
  · exact Or.inr (Or.inr (Or.inr (Or.inr (Or.inl ⟨h1, h2, h3⟩))))
  · exact Or.inr (Or.inr (Or.inr (Or.inr (Or.inr (Or.inl ⟨h1, h2, h3⟩)))))
  · exact Or.inr (Or.inr (Or.inr (Or.inr (Or.inr (Or.inr (Or.inl ⟨h1, h2, h3.moved hvm⟩))))))
  · exact Or.inr (Or.inr (Or.inr (Or.inr (Or.inr (Or.inr (Or.inr (Or.inl ⟨h1, h2, h3.moved hvm⟩)))))))
  · exact Or.inr (Or.inr (Or.inr (Or.inr (Or.inr (Or.inr (Or.inr (Or.inr (Or.inl ⟨kd, h1, h2, h3, h4, h5, h6⟩))))))))
  · exact Or.inr (Or.inr (Or.inr (Or.inr (Or.inr (Or.inr (Or.inr (Or.inr (Or.inr ⟨h1, h2, h3.moved hvm⟩))))))))
theorem RelM.moved {G_z : Env0} {D_z : va_G} {dA : Nat → ClassId} {u_z s_z : State} (hvm : u_z.vm.Alike s_z.vm) {M_z : Mem} {H_z : Heap} (h_z : RelM G_z D_z dA u_z M_z H_z) : RelM G_z D_z dA s_z M_z H_z :=
  ⟨h_z.1, h_z.2.1, h_z.2.2.1, h_z.2.2.2.1, h_z.2.2.2.2.1, h_z.2.2.2.2.2.1, h_z.2.2.2.2.2.2.1, fun a_z => (h_z.2.2.2.2.2.2.2 a_z).moved hvm⟩
/-- sizes of cells stay: the sum of the slots -/
theorem hsum_eq {lo_z : Nat} {H_z H' : Heap} (hz : H'.size = H_z.size) (hs : ∀ a_z : Nat, (H'[a_z]?).map (·.slots.size) = (H_z[a_z]?).map (·.slots.size)) : hsum lo_z H' = hsum lo_z H_z := by
  unfold hsum
  congr 1
  apply List.ext_getElem?
  intro i_z
  rw [List.getElem?_map, List.getElem?_map, List.getElem?_drop, List.getElem?_drop, Array.getElem?_toList, Array.getElem?_toList]
  exact hs _
theorem hsum_push {lo_z : Nat} {H_z H' : Heap} {cell_z : Cell} (hlo : lo_z ≤ H_z.size) (hz : H'.size = H_z.size + 1) (hc_z : H'[H_z.size]? = some cell_z) (hs : ∀ a_z : Nat, a_z < H_z.size → H'[a_z]? = H_z[a_z]?) : hsum lo_z H' = hsum lo_z H_z + cell_z.slots.size := by
  have e_z : H'.toList = H_z.toList ++ [cell_z] := by
    apply List.ext_getElem?
    intro i_z
    rw [Array.getElem?_toList]
    by_cases hi_z : i_z < H_z.size
    · rw [hs i_z hi_z, List.getElem?_append_left (by simpa using hi_z), Array.getElem?_toList]
    · by_cases he : i_z = H_z.size
      · subst he
        rw [hc_z, List.getElem?_append_right (by simp)]
        simp
      · rw [List.getElem?_append_right (by simp; omega)]
        have h1 : H'[i_z]? = none := by rw [Array.getElem?_eq_none_iff]; omega
        rw [h1]
        symm
        rw [List.getElem?_eq_none_iff]
        simp; omega
  unfold hsum
  rw [e_z, List.drop_append_of_le_length (by simpa using hlo)]
  simp
theorem hsum_split {lo_z : Nat} {S_z H_z : Heap} (hlo : lo_z ≤ S_z.size) (hz : S_z.size ≤ H_z.size) (hs : ∀ a_z : Nat, a_z < S_z.size → (H_z[a_z]?).map (·.slots.size) = (S_z[a_z]?).map (·.slots.size)) : hsum lo_z H_z = hsum lo_z S_z + hsum S_z.size H_z := by
  have e_z : (H_z.toList.drop lo_z).map (·.slots.size) = (S_z.toList.drop lo_z).map (·.slots.size) ++ (H_z.toList.drop S_z.size).map (·.slots.size) := by
    apply List.ext_getElem?
    intro i_z
    by_cases hi_z : lo_z + i_z < S_z.size
    · rw [List.getElem?_append_left (by simp; omega), List.getElem?_map, List.getElem?_map, List.getElem?_drop, List.getElem?_drop, Array.getElem?_toList, Array.getElem?_toList]
      exact hs _ hi_z
    · rw [List.getElem?_append_right (by simp; omega), List.getElem?_map, List.getElem?_map, List.getElem?_drop, List.getElem?_drop]
      congr 2
      simp
      omega
  unfold hsum
  rw [e_z, List.sum_append]
