/-! THE PURE PART, part 9: words and operators, which nobody writes. Own work. -/
/-- what nobody writes, as it is at any time -/
def RoOk (G_z : Env0) (M_z : Mem) (wd bs : Nat → Nat) : Prop :=
  (gK M_z (G_z.2 0) = 250 ∧ gN M_z (G_z.2 0) = 23 ∧ ∀ k_z : Nat, k_z < 23 → gR M_z (G_z.2 0) (k_z : Int) = G_z.2 (3 + k_z)) ∧
  (gK M_z (G_z.2 1) = 104 ∧ gN M_z (G_z.2 1) = 23 ∧ ∀ k_z : Nat, k_z < 23 → gI M_z (G_z.2 1) (k_z : Int) = ((smapL.getD k_z 0 : Nat) : Int)) ∧
  (∀ i_z : Nat, i_z < 23 → gK M_z (G_z.2 (3 + i_z)) = 41 ∧ gR M_z (G_z.2 (3 + i_z)) 1 = wd i_z ∧ ∀ k_z : Nat, k_z ∈ [0, 2, 3, 4, 5] → gI M_z (G_z.2 (3 + i_z)) (k_z : Int) = (((opV i_z).getD (vix k_z) 0 : Nat) : Int)) ∧
  (∀ i_z : Nat, i_z < 23 → gK M_z (wd i_z) = 42 ∧ gI M_z (wd i_z) 1 = 0 ∧ gR M_z (wd i_z) 0 = bs i_z) ∧
  (∀ i_z : Nat, i_z < 23 → gK M_z (bs i_z) = 105 ∧ gN M_z (bs i_z) = ((opB i_z).length : Int) ∧ ∀ k_z : Nat, k_z < (opB i_z).length → gI M_z (bs i_z) (k_z : Int) = (((opB i_z).getD k_z 0 : Nat) : Int))
/-- nothing that was there at the start has changed -/
def OldOk (G_z : Env0) (M0 M_z : Mem) : Prop := ∀ r_z : Nat, r_z ≤ G_z.1 → agr M0 M_z r_z
theorem ro_of {G_z : Env0} {M0 M_z : Mem} {B_z L_z : Nat} {xs : Nat → Int32} {wd bs : Nat → Nat} (h_z : Ini0 G_z M0 B_z L_z xs wd bs) (o : OldOk G_z M0 M_z) : RoOk G_z M_z wd bs := by
  obtain ⟨-, -, -, h1, h2, h3, h4, h5, h6⟩ := h_z
  have hle : ∀ r_z, gK M0 r_z ≠ 0 → r_z ≤ G_z.1 := fun r_z hr => by
    by_cases c_z : r_z ≤ G_z.1
    · exact c_z
    · exact absurd (h6 r_z (by omega)) hr
  refine ⟨?_, ?_, fun i_z hi_z => ?_, fun i_z hi_z => ?_, fun i_z hi_z => ?_⟩
  · obtain ⟨e1_z, e2_z, e3_z, e4_z, e5_z⟩ := o (G_z.2 0) (hle _ (by rw [h1.1]; decide))
    exact ⟨by rw [e1_z]; exact h1.1, by rw [e2_z]; exact h1.2.1, fun k_z hk => by rw [e5_z]; exact h1.2.2 k_z hk⟩
  · obtain ⟨e1_z, e2_z, e3_z, e4_z, e5_z⟩ := o (G_z.2 1) (hle _ (by rw [h2.1]; decide))
    exact ⟨by rw [e1_z]; exact h2.1, by rw [e2_z]; exact h2.2.1, fun k_z hk => by rw [e3_z]; exact h2.2.2 k_z hk⟩
  · obtain ⟨q1_z, q2_z, q3_z⟩ := h3 i_z hi_z
    obtain ⟨e1_z, e2_z, e3_z, e4_z, e5_z⟩ := o (G_z.2 (3 + i_z)) (hle _ (by rw [q1_z]; decide))
    exact ⟨by rw [e1_z]; exact q1_z, by rw [e5_z]; exact q2_z, fun k_z hk => by rw [e3_z]; exact q3_z k_z hk⟩
  · obtain ⟨q1_z, q2_z, q3_z⟩ := h4 i_z hi_z
    obtain ⟨e1_z, e2_z, e3_z, e4_z, e5_z⟩ := o (wd i_z) (hle _ (by rw [q1_z]; decide))
    exact ⟨by rw [e1_z]; exact q1_z, by rw [e3_z]; exact q2_z, by rw [e5_z]; exact q3_z⟩
  · obtain ⟨q1_z, q2_z, q3_z⟩ := h5 i_z hi_z
    obtain ⟨e1_z, e2_z, e3_z, e4_z, e5_z⟩ := o (bs i_z) (hle _ (by rw [q1_z]; decide))
    exact ⟨by rw [e1_z]; exact q1_z, by rw [e2_z]; exact q2_z, fun k_z hk => by rw [e3_z]; exact q3_z k_z hk⟩
theorem shr0 {n_z : Nat} (h_z : n_z < 10) : zShr (n_z : Int) 0 = (n_z : Int) := by
  have : ∀ n_z : Nat, n_z < 10 → zShr (n_z : Int) 0 = (n_z : Int) := by decide +kernel
  exact this n_z h_z
theorem chr_id {n_z : Nat} (h_z : n_z < 200) : zChr (zAnd (n_z : Int) 255) = (n_z : Int) := by
  have : ∀ n_z : Nat, n_z < 200 → zChr (zAnd (n_z : Int) 255) = (n_z : Int) := by decide +kernel
  exact this n_z h_z
section DS
variable {G : Env0} {Q : Option AV → Mem → Prop} {M : Mem} {r : Nat} {wd bs : Nat → Nat}
theorem X_coder {i_z : Nat} (hi_z : i_z < 23) (ho : RoOk G M wd bs) (h_z : Q (some (a_i 0)) M) : Call G J_Sg_coder [a_r (wd i_z)] M Q := by
  obtain ⟨q1_z, q2_z, q3_z⟩ := ho.2.2.2.1 i_z hi_z
  simp only [E_Sg_coder, B_35_0, B_35_13, B_35_14, q2_z]
  exact ⟨fun c_z => absurd c_z (by decide), fun _ => ⟨q1_z, ⟨by decide, by decide⟩, h_z⟩⟩
theorem X_length {i_z : Nat} (hi_z : i_z < 23) (ho : RoOk G M wd bs) (h_z : Q (some (a_i ((opB i_z).length : Int))) M) : Call G J_Sg_length [a_r (wd i_z)] M Q := by
  obtain ⟨q1_z, q2_z, q3_z⟩ := ho.2.2.2.1 i_z hi_z
  obtain ⟨p1_z, p2_z, p3_z⟩ := ho.2.2.2.2 i_z hi_z
  have hb_z := (opB_small i_z hi_z).1
  rw [E_Sg_length, B_34_0, q3_z]
  refine ⟨q1_z, by omega, q1_z, X_coder hi_z ho ?_⟩
  simp only [Option.toList_some, List.cons_append, List.nil_append, B_34_9, p2_z]
  rw [shr0 hb_z]
  exact ⟨trivial, h_z⟩
theorem X_isLatin1 {i_z : Nat} (hi_z : i_z < 23) (ho : RoOk G M wd bs) (h_z : Q (some (a_i 1)) M) : Call G J_Sg_isLatin1 [a_r (wd i_z)] M Q := by
  obtain ⟨q1_z, q2_z, q3_z⟩ := ho.2.2.2.1 i_z hi_z
  simp only [E_Sg_isLatin1, B_37_0, B_37_17, B_37_18, q2_z]
  exact ⟨fun c_z => absurd c_z (by decide), fun _ => ⟨q1_z, fun c_z => absurd trivial c_z, fun _ => ⟨Or.inr rfl, h_z⟩⟩⟩
theorem X_charAt {i_z k_z : Nat} (hi_z : i_z < 23) (hk : k_z < (opB i_z).length) (ho : RoOk G M wd bs) (h_z : Q (some (a_i (((opB i_z).getD k_z 0 : Nat) : Int))) M) : Call G J_Sg_charAt [a_r (wd i_z), a_i (k_z : Int)] M Q := by
  obtain ⟨q1_z, q2_z, q3_z⟩ := ho.2.2.2.1 i_z hi_z
  obtain ⟨p1_z, p2_z, p3_z⟩ := ho.2.2.2.2 i_z hi_z
  have hb_z := opB_small i_z hi_z
  have hc_z := hb_z.2 k_z (by omega)
  rw [E_Sg_charAt, B_36_0]
  refine ⟨q1_z, X_isLatin1 hi_z ho ?_⟩
  simp only [Option.toList_some, List.append_nil, B_36_4]
  refine ⟨fun c_z => absurd c_z (by decide), fun _ => ⟨q1_z, ?_⟩⟩
  rw [q3_z, E_Sl_charAt, B_38_0, p1_z, p2_z]
  refine ⟨by omega, ?_⟩
  rw [E_Sg_checkIndex, B_39_0, E_Pc_checkIndex, B_40_0]
  refine ⟨fun c_z => absurd c_z (by omega), fun _ => ⟨fun _ => ?_, fun c_z => absurd c_z (by omega)⟩⟩
  rw [B_40_16]
  refine ⟨trivial, ?_⟩
  simp only [Option.toList_some, List.append_nil, B_39_8, Option.toList_none, B_38_6]
  rw [p1_z, p2_z, p3_z k_z hk, chr_id hc_z]
  refine ⟨Or.inr rfl, by omega, by omega, ⟨by omega, by omega⟩, ?_⟩
  rw [B_36_15]
  exact ⟨⟨by omega, by omega⟩, h_z⟩
end DS
