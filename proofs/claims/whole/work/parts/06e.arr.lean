/-! THE SMALL MACHINE, part 6: rows of values, new cells. Own work. -/
def ktyA (kd : Nat) : FieldType := if kd = 100 ∨ kd = 104 then .int else if kd = 101 then .long else if kd = 102 then .boolean else if kd = 105 then .byte else if kd = 250 then .object (rR 40) else .object (elR kd)
def kvf (M_z : Mem) (r_z kd : Nat) : Nat → Value := if kd = 101 then vfL M_z r_z else if 110 ≤ kd then vfR M_z r_z else vfI M_z r_z
section XA
variable {p : Program} {l : Launch} {e : Env} {R : Room} {s : State} {m : MethodId} {args : Array Value} {below : List Frame} {meth : Method} {c : Code} {H : Heap} {locs : List Loc} {cells slots : Nat} {Q : State → Prop}
variable {G : Env0} {D : va_G} {dA : Nat → ClassId} {j : Nat} {M : Mem} {pc : Nat} {ls : Array Slot} {rest : List Value}
theorem ty_of (hwk : WK G D dA s) {kd : Nat} {ty_z : FieldType} (h_z : (kd, ty_z) ∈ tyA) : ArrOfT s (dA kd) ty_z ∧ va_RA s (dA kd) ty_z := by
  have h1 : (dA kd, ty_z) ∈ tysOf dA := List.mem_map.mpr ⟨(kd, ty_z), h_z, rfl⟩
  obtain ⟨i_z, hi_z⟩ := List.getElem?_of_mem h1
  exact hwk.1.2 i_z _ hi_z
theorem rel_rw {a_z : Nat} (hR : RelM G D dA s M H) (h_z : gK M (a_z + 1) = 100 ∨ gK M (a_z + 1) = 101 ∨ gK M (a_z + 1) = 102 ∨ (110 ≤ gK M (a_z + 1) ∧ gK M (a_z + 1) < 250)) :
    G.1 ≤ a_z ∧ (gK M (a_z + 1), ktyA (gK M (a_z + 1))) ∈ tyA ∧ ∃ n_z : Nat, gN M (a_z + 1) = n_z ∧ n_z ≤ 1000000 ∧ H[a_z]? = some (arrV (dA (gK M (a_z + 1))) n_z (kvf M (a_z + 1) (gK M (a_z + 1)))) := by
  rcases hR.at a_z with h0 | ⟨ci2, h1, h2, h3, h4⟩ | ⟨ci2, h1, h2, h3, h4⟩ | ⟨h1, h2, h3⟩ | ⟨h1, h2, h3⟩ | ⟨h1, h2, h3⟩ | ⟨h1, h2, h3⟩ | ⟨h1, h2, h3⟩ | ⟨kd, h1, h2, h3, h4, h5, h6⟩ | ⟨h1, h2, h3⟩
  · omega
  · omega
  · omega
  · rw [h1]; exact ⟨h2, by decide, h3⟩
  · rw [h1]; exact ⟨h2, by decide, h3⟩
  · rw [h1]; exact ⟨h2, by decide, h3⟩
  · omega
  · omega
  · subst h1
    have e1_z : ktyA (gK M (a_z + 1)) = .object (elR (gK M (a_z + 1))) := by
      unfold ktyA
      rw [if_neg (by omega), if_neg (by omega), if_neg (by omega), if_neg (by omega), if_neg (by omega)]
    have e2_z : kvf M (a_z + 1) (gK M (a_z + 1)) = vfR M (a_z + 1) := by
      unfold kvf
      rw [if_neg (by omega), if_pos h2]
    rw [e1_z, e2_z]
    exact ⟨h5, h4, h6⟩
  · omega
theorem rel_arr {a_z : Nat} (hwk : WK G D dA s) (hR : RelM G D dA s M H) (h_z : 100 ≤ gK M (a_z + 1)) :
    ∃ (n_z : Nat) (cell_z : Cell), gN M (a_z + 1) = n_z ∧ n_z ≤ 1000000 ∧ H[a_z]? = some cell_z ∧ s.isArrayOf cell_z (ktyA (gK M (a_z + 1))) ∧ cell_z.vm ≠ .unknown ∧ cell_z.slots.size = n_z ∧ ∀ i_z, i_z < n_z → cell_z.slots[i_z]? = some (kvf M (a_z + 1) (gK M (a_z + 1)) i_z) := by
  have key_z : (gK M (a_z + 1) = 100 ∨ gK M (a_z + 1) = 101 ∨ gK M (a_z + 1) = 102 ∨ (110 ≤ gK M (a_z + 1) ∧ gK M (a_z + 1) < 250)) → ∃ (n_z : Nat) (cell_z : Cell), gN M (a_z + 1) = n_z ∧ n_z ≤ 1000000 ∧ H[a_z]? = some cell_z ∧ s.isArrayOf cell_z (ktyA (gK M (a_z + 1))) ∧ cell_z.vm ≠ .unknown ∧ cell_z.slots.size = n_z ∧ ∀ i_z, i_z < n_z → cell_z.slots[i_z]? = some (kvf M (a_z + 1) (gK M (a_z + 1)) i_z) := by
    intro hk
    obtain ⟨g1, g2, n_z, g3_z, g4, g5_z⟩ := rel_rw hR hk
    exact ⟨n_z, _, g3_z, g4, g5_z, (ty_of hwk g2).1 n_z _, (fun q_z => by cases q_z), arrV_size _ _ _, fun i_z hi_z => arrV_read _ _ hi_z⟩
  rcases hR.at a_z with h0 | ⟨ci2, h1, h2, h3, h4⟩ | ⟨ci2, h1, h2, h3, h4⟩ | ⟨h1, h2, h3⟩ | ⟨h1, h2, h3⟩ | ⟨h1, h2, h3⟩ | ⟨h1, h2, h3⟩ | ⟨h1, h2, h3⟩ | ⟨kd, h1, h2, h3, h4, h5, h6⟩ | ⟨h1, h2, h3⟩
  · omega
  · omega
  · omega
  · exact key_z (by omega)
  · exact key_z (by omega)
  · exact key_z (by omega)
  · rw [h1]; obtain ⟨n_z, cell_z, g1, g2, g3_z, g4, g5_z, g6, g7⟩ := h3; exact ⟨n_z, cell_z, g1, g2, g3_z, g4, g5_z, g6, g7⟩
  · rw [h1]; obtain ⟨n_z, cell_z, g1, g2, g3_z, g4, g5_z, g6, g7⟩ := h3; exact ⟨n_z, cell_z, g1, g2, g3_z, g4, g5_z, g6, g7⟩
  · exact key_z (by omega)
  · rw [h1]; obtain ⟨n_z, cell_z, g1, g2, g3_z, g4, g5_z, g6, g7⟩ := h3; exact ⟨n_z, cell_z, g1, g2, g3_z, g4, g5_z, g6, g7⟩
theorem x_alen {r_z : Nat} (C0_z : CtxJ G D dA p R s m args meth c j) (hR : RelM G D dA s M H) (hK_z : 100 ≤ gK M r_z) (hdg : decode (mby j) pc = .ok (.arraylength, 1))
    (kk : inI (gN M r_z) → W p l e R s m args below meth c H locs cells slots Q (F0 m (pc + 1) ls (cv (a_i (gN M r_z)) :: rest))) : W p l e R s m args below meth c H locs cells slots Q (F0 m pc ls (cv (a_r r_z) :: rest)) := by
  obtain ⟨a0_z, ea⟩ := rel_r hR (show gK M r_z ≠ 0 by omega)
  subst ea
  obtain ⟨n_z, cell_z, g1, g2, g3_z, g4, g5_z, g6, g7⟩ := rel_arr C0_z.hwk hR hK_z
  refine W.alen C0_z.hex C0_z.hby g3_z g4 ?_ rfl rfl hdg (kk (by rw [g1]; exact ⟨by omega, by omega⟩))
  rw [g6, g1]
  exact (Int32.ofInt_eq_ofNat).symm
theorem vin {i_z : Int} {n_z : Nat} (h0 : 0 ≤ i_z) (h1 : i_z < n_z) (hn : n_z ≤ 1000000) : inI i_z ∧ (Int32.ofInt i_z).toNatClampNeg = i_z.toNat ∧ i_z.toNat < n_z ∧ ¬ (Int32.ofInt i_z < 0 ∨ n_z ≤ (Int32.ofInt i_z).toNatClampNeg) := by
  have hi_z : inI i_z := ⟨by omega, by omega⟩
  have e1_z := i_clamp hi_z h0
  refine ⟨hi_z, e1_z, by omega, ?_⟩
  rw [e1_z]
  rintro (q_z | q_z)
  · exact i_nneg hi_z h0 q_z
  · omega
/-- an element read -/
theorem x_ald {r_z : Nat} {i_z : Int} {ins : Instr} {v_z : AV} (C0_z : CtxJ G D dA p R s m args meth c j) (hR : RelM G D dA s M H) (h0 : 0 ≤ i_z) (h1 : i_z < gN M r_z) (hdg : decode (mby j) pc = .ok (ins, 1))
    (hk : (ins = .iaload ∧ kInt (gK M r_z) ∧ v_z = a_i (gI M r_z i_z)) ∨ (ins = .laload ∧ gK M r_z = 101 ∧ v_z = a_l (gL M r_z i_z)) ∨ (ins = .baload ∧ kByt (gK M r_z) ∧ v_z = a_i (gI M r_z i_z)) ∨ (ins = .aaload ∧ 110 ≤ gK M r_z ∧ v_z = a_r (gR M r_z i_z)))
    (kk : W p l e R s m args below meth c H locs cells slots Q (F0 m (pc + 1) ls (cv v_z :: rest))) : W p l e R s m args below meth c H locs cells slots Q (F0 m pc ls (cv (a_i i_z) :: cv (a_r r_z) :: rest)) := by
  have hb_z : 100 ≤ gK M r_z := by
    rcases hk with ⟨-, q_z, -⟩ | ⟨-, q_z, -⟩ | ⟨-, q_z, -⟩ | ⟨-, q_z, -⟩
    · rcases q_z with q_z | q_z <;> omega
    · omega
    · rcases q_z with q_z | q_z <;> omega
    · omega
  obtain ⟨a0_z, ea⟩ := rel_r hR (show gK M r_z ≠ 0 by omega)
  subst ea
  obtain ⟨n_z, cell_z, g1, g2, g3_z, g4, g5_z, g6, g7⟩ := rel_arr C0_z.hwk hR hb_z
  rw [g1] at h1
  obtain ⟨hi_z, e1_z, e2_z, e3_z⟩ := vin h0 h1 g2
  have g8 := g7 i_z.toNat e2_z
  have e4_z : ((i_z.toNat : Nat) : Int) = i_z := by omega
  rw [← g6] at e3_z
  rcases hk with ⟨rfl, q_z, rfl⟩ | ⟨rfl, q_z, rfl⟩ | ⟨rfl, q_z, rfl⟩ | ⟨rfl, q_z, rfl⟩
  · refine W.iald C0_z.hex C0_z.hby g3_z ?_ g5_z e3_z ?_ rfl rfl hdg kk
    · rcases q_z with q_z | q_z <;> (rw [q_z] at g4; exact g4)
    · rw [e1_z, g8]
      rcases q_z with q_z | q_z <;> (rw [q_z]; show some (Value.int (Int32.ofInt (gI M (a0_z + 1) (i_z.toNat : Nat)))) = _; rw [e4_z]; rfl)
  · refine W.lald C0_z.hex C0_z.hby g3_z ?_ g5_z e3_z ?_ rfl rfl hdg kk
    · rw [q_z] at g4; exact g4
    · rw [e1_z, g8, q_z]
      show some (Value.long (Int64.ofInt (gL M (a0_z + 1) (i_z.toNat : Nat)))) = _
      rw [e4_z]; rfl
  · rcases q_z with q_z | q_z
    · refine W.zald C0_z.hex C0_z.hby g3_z ?_ g5_z e3_z ?_ rfl rfl hdg kk
      · rw [q_z] at g4; exact g4
      · rw [e1_z, g8, q_z]
        show some (Value.int (Int32.ofInt (gI M (a0_z + 1) (i_z.toNat : Nat)))) = _
        rw [e4_z]; rfl
    · refine W.bald C0_z.hex C0_z.hby g3_z ?_ g5_z e3_z ?_ rfl rfl hdg kk
      · rw [q_z] at g4; exact g4
      · rw [e1_z, g8, q_z]
        show some (Value.int (Int32.ofInt (gI M (a0_z + 1) (i_z.toNat : Nat)))) = _
        rw [e4_z]; rfl
  · have q1_z : ∃ cn, ktyA (gK M (a0_z + 1)) = .object cn := by
      unfold ktyA
      rw [if_neg (by omega), if_neg (by omega), if_neg (by omega), if_neg (by omega)]
      split
      · exact ⟨_, rfl⟩
      · exact ⟨_, rfl⟩
    obtain ⟨cn, hcn⟩ := q1_z
    rw [hcn] at g4
    refine W.aald C0_z.hex C0_z.hby g3_z g4 rfl g5_z e3_z ?_ rfl rfl hdg kk
    rw [e1_z, g8]
    unfold kvf
    rw [if_neg (by omega), if_pos q_z]
    show some (cv (a_r (gR M (a0_z + 1) (i_z.toNat : Nat)))) = _
    rw [e4_z]
/-- an element written: what the new memory is -/
theorem rel_store {a_z n_z : Nat} {i_z : Int} {v_z : AV} {M' : Mem} {H1_z : Heap} (hR : RelM G D dA s M H) (hw : gK M (a_z + 1) = 100 ∨ gK M (a_z + 1) = 101 ∨ gK M (a_z + 1) = 102 ∨ (110 ≤ gK M (a_z + 1) ∧ gK M (a_z + 1) < 250)) (h0 : 0 ≤ i_z) (hn1 : gN M (a_z + 1) = n_z) (hn2 : n_z ≤ 1000000)
    (hM_z : M' = (match v_z with | .inl z_z => uI M (a_z + 1) i_z z_z | .inr (.inl z_z) => uL M (a_z + 1) i_z z_z | .inr (.inr (.inl z_z)) => uR M (a_z + 1) i_z z_z | _ => M)) (hv : okv v_z) (hcell : H[a_z]? = some (arrV (dA (gK M (a_z + 1))) n_z (kvf M (a_z + 1) (gK M (a_z + 1)))))
    (hk : ((gK M (a_z + 1) = 100 ∨ gK M (a_z + 1) = 102) ∧ ∃ z_z, v_z = a_i z_z) ∨ (gK M (a_z + 1) = 101 ∧ ∃ z_z, v_z = a_l z_z) ∨ (110 ≤ gK M (a_z + 1) ∧ ∃ z_z, v_z = a_r z_z))
    (e_z : H1_z[a_z]? = some ((arrV (dA (gK M (a_z + 1))) n_z (kvf M (a_z + 1) (gK M (a_z + 1)))).setSlot i_z.toNat (cv v_z))) (z_z : H1_z.size = H.size) (oq : ∀ q_z : Nat, q_z ≠ a_z → H1_z[q_z]? = H[q_z]?) : RelM G D dA s M' H1_z := by
  obtain ⟨l1, l2, -⟩ := rel_rw hR hw
  have e4_z : ((i_z.toNat : Nat) : Int) = i_z := by omega
  have key_z : ∀ q_z : Nat, (q_z : Int) = i_z ↔ q_z = i_z.toNat := fun q_z => by omega
  rw [arrV_store] at e_z
  have hsz : (H1_z[a_z]?).map (·.slots.size) = (H[a_z]?).map (·.slots.size) := by rw [e_z, hcell]; simp [arrV_size]
  rcases hk with ⟨hk, x_z, rfl⟩ | ⟨hk, x_z, rfl⟩ | ⟨hk, x_z, rfl⟩
  · subst hM_z
    have ek : kvf M (a_z + 1) (gK M (a_z + 1)) = vfI M (a_z + 1) := by unfold kvf; rw [if_neg (by omega), if_neg (by omega)]
    have ef : updV (kvf M (a_z + 1) (gK M (a_z + 1))) i_z.toNat (cv (a_i x_z)) = vfI (uI M (a_z + 1) i_z x_z) (a_z + 1) := by
      funext q_z
      rw [ek]
      unfold updV vfI
      rw [gI_uI]
      by_cases hq : q_z = i_z.toNat
      · rw [if_pos hq, if_pos ⟨rfl, (key_z q_z).mpr hq⟩]; rfl
      · rw [if_neg hq, if_neg (fun w_z => hq ((key_z q_z).mp w_z.2))]
    rw [ef] at e_z
    refine hR.put z_z oq hsz (fun r_z hr => agr_uI hr) rfl rfl (fun k_z => ⟨?_, (hR.rng _ k_z).2⟩) ?_
    · rw [gI_uI]; split
      · exact hv
      · exact (hR.rng _ k_z).1
    · rcases hk with hk | hk
      · exact Or.inr (Or.inr (Or.inr (Or.inl ⟨hk, l1, n_z, hn1, hn2, by rw [hk] at e_z; exact e_z⟩)))
      · exact Or.inr (Or.inr (Or.inr (Or.inr (Or.inr (Or.inl ⟨hk, l1, n_z, hn1, hn2, by rw [hk] at e_z; exact e_z⟩)))))
  · subst hM_z
    have ek : kvf M (a_z + 1) (gK M (a_z + 1)) = vfL M (a_z + 1) := by unfold kvf; rw [if_pos hk]
    have ef : updV (kvf M (a_z + 1) (gK M (a_z + 1))) i_z.toNat (cv (a_l x_z)) = vfL (uL M (a_z + 1) i_z x_z) (a_z + 1) := by
      funext q_z
      rw [ek]
      unfold updV vfL
      rw [gL_uL]
      by_cases hq : q_z = i_z.toNat
      · rw [if_pos hq, if_pos ⟨rfl, (key_z q_z).mpr hq⟩]; rfl
      · rw [if_neg hq, if_neg (fun w_z => hq ((key_z q_z).mp w_z.2))]
    rw [ef] at e_z
    refine hR.put z_z oq hsz (fun r_z hr => agr_uL hr) rfl rfl (fun k_z => ⟨(hR.rng _ k_z).1, ?_⟩) ?_
    · rw [gL_uL]; split
      · exact hv
      · exact (hR.rng _ k_z).2
    · exact Or.inr (Or.inr (Or.inr (Or.inr (Or.inl ⟨hk, l1, n_z, hn1, hn2, by rw [hk] at e_z; exact e_z⟩))))
  · subst hM_z
    have ek : kvf M (a_z + 1) (gK M (a_z + 1)) = vfR M (a_z + 1) := by unfold kvf; rw [if_neg (by omega), if_pos hk]
    have ef : updV (kvf M (a_z + 1) (gK M (a_z + 1))) i_z.toNat (cv (a_r x_z)) = vfR (uR M (a_z + 1) i_z x_z) (a_z + 1) := by
      funext q_z
      rw [ek]
      unfold updV vfR
      rw [gR_uR]
      by_cases hq : q_z = i_z.toNat
      · rw [if_pos hq, if_pos ⟨rfl, (key_z q_z).mpr hq⟩]
      · rw [if_neg hq, if_neg (fun w_z => hq ((key_z q_z).mp w_z.2))]
    rw [ef] at e_z
    refine hR.put z_z oq hsz (fun r_z hr => agr_uR hr) rfl rfl (fun k_z => ⟨(hR.rng _ k_z).1, (hR.rng _ k_z).2⟩) ?_
    have l3 : (gK M (a_z + 1), FieldType.object (elR (gK M (a_z + 1)))) ∈ tyA := by
      have e1_z : ktyA (gK M (a_z + 1)) = .object (elR (gK M (a_z + 1))) := by
        unfold ktyA
        rw [if_neg (by omega), if_neg (by omega), if_neg (by omega), if_neg (by omega), if_neg (by omega)]
      rw [e1_z] at l2; exact l2
    exact Or.inr (Or.inr (Or.inr (Or.inr (Or.inr (Or.inr (Or.inr (Or.inr (Or.inl ⟨gK M (a_z + 1), rfl, hk, by omega, l3, l1, n_z, hn1, hn2, e_z⟩))))))))
end XA
