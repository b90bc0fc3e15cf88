/-! THE SMALL MACHINE, part 6: copies of rows, calls, returns. Own work. -/
section XC
variable {p : Program} {l : Launch} {e : Env} {R : Room} {s : State} {m : MethodId} {args : Array Value} {below : List Frame} {meth : Method} {c : Code} {H : Heap} {locs : List Loc} {cells slots : Nat} {Q : State → Prop}
variable {G : Env0} {D : va_G} {dA : Nat → ClassId} {j : Nat} {M : Mem} {pc : Nat} {ls : Array Slot} {rest : List Value}
theorem w_copy {idx_z n0_z n1_z sa_z da_z : Nat} {ty_z : FieldType} {c0_z c1_z : ClassId} {f0_z f1_z : Nat → Value} {sp_z dp n_z : Int32} {H0 : Heap} (C0_z : CtxJ G D dA p R s m args meth c j) (hS0 : va_S (aA G) H0 H locs) (hda : aA G da_z) (hls : ls.size = (tab j).1) (hl : (onm (mow j), idx_z) ∈ acpL.map (fun q_z => (onm q_z.1, q_z.2)))
    (ha0 : H[sa_z]? = some (arrV c0_z n0_z f0_z)) (ha1 : H[da_z]? = some (arrV c1_z n1_z f1_z)) (ht0 : ArrOfT s c0_z ty_z) (ht1 : ArrOfT s c1_z ty_z) (hprim : refKind ty_z = false) (h1 : ¬ sp_z < 0) (h2 : ¬ dp < 0) (h3 : ¬ n_z < 0) (h4 : sp_z.toNatClampNeg + n_z.toNatClampNeg ≤ n0_z) (h5 : dp.toNatClampNeg + n_z.toNatClampNeg ≤ n1_z)
    (hfit : ∀ i_z, fits ty_z (f0_z i_z) = true ∧ ∀ (U_z : State) (cC : ClassId), U_z.takes cC (f0_z i_z)) (hframes : 1 ≤ R.frames) (hlocals : (rest.map fun v_z => v_z.category).sum + (nativeFrameWords "java/lang/System" "arraycopy" 5 + 11) ≤ R.locals) (hdg : decode (mby j) pc = .ok (.invokestatic idx_z, 3))
    (kk : ∀ (H1_z : Heap) (locs1 : List Loc), H1_z[da_z]? = some (arrV c1_z n1_z (va_cpy f0_z f1_z sp_z.toNatClampNeg dp.toNatClampNeg n_z.toNatClampNeg)) → H1_z.size = H.size → (∀ q_z : Nat, q_z ≠ da_z → H1_z[q_z]? = H[q_z]?) → va_S (aA G) H0 H1_z locs1 → W p l e R s m args below meth c H1_z locs1 cells slots Q (F0 m (pc + 3) ls rest)) : W p l e R s m args below meth c H locs cells slots Q (F0 m pc ls (.int n_z :: .int dp :: .ref da_z :: .int sp_z :: .ref sa_z :: rest)) := by
  have nn : ∀ z_z : Int32, ¬ z_z < 0 → z_z.toInt = (z_z.toNatClampNeg : Int) := by
    intro z_z hz
    have hz0 : (0 : Int) ≤ z_z.toInt := by
      have h_z := Int32.not_lt.mp hz
      simpa using Int32.le_iff_toInt_le.mp h_z
    show z_z.toInt = ((z_z.toInt.toNat : Nat) : Int)
    omega
  have hlk : Cond.methodLink (onm (mow j)) idx_z arraycopyName ∈ gtbl := by
    obtain ⟨q_z, hq, hqe⟩ := List.mem_map.mp hl
    have h_z := List.all_eq_true.mp acpL_ok q_z hq
    rw [decide_eq_true_eq] at h_z
    have e1_z : onm q_z.1 = onm (mow j) := congrArg Prod.fst hqe
    have e2_z : q_z.2 = idx_z := congrArg Prod.snd hqe
    rw [e1_z, e2_z] at h_z
    exact h_z
  have hac := acp_ok
  simp only [Bool.and_eq_true, decide_eq_true_eq] at hac
  intro T hT_z X_z
  obtain ⟨-, k0_z, hk0, cm0, hkk0⟩ := ht0 n0_z f0_z
  obtain ⟨-, k1_z, hk1, cm1, hkk1⟩ := ht1 n1_z f1_z
  obtain ⟨vm', X', step⟩ := X_z.arraycopy C0_z.hex C0_z.how (C0_z.hts _ hlk) (C0_z.hts _ hac.1.1) (C0_z.hts _ hac.1.2) (C0_z.hts _ hac.2) (src := sa_z) (dst := da_z) (cs := arrV c0_z n0_z f0_z) (cd := arrV c1_z n1_z f1_z) (srcPos := sp_z) (destPos := dp) (n := n_z) (by rw [hT_z]; exact ha0) (by rw [hT_z]; exact ha1)
    (fun _ h_z => by cases h_z) (fun _ h_z => by cases h_z) (fun h_z => by cases h_z) (fun h_z => by cases h_z) hk0 hk1 hkk0 hkk1 (by simp [hprim]) h1 h2 h3
    (by rw [nn sp_z h1, nn n_z h3, arrV_size]; omega) (by rw [nn dp h2, nn n_z h3, arrV_size]; omega)
    (fun vm₁ _ i_z hi_z => by
      have e0_z : (arrV c0_z n0_z f0_z).slots.getD (sp_z.toNatClampNeg + i_z) .null = f0_z (sp_z.toNatClampNeg + i_z) := by
        rw [Array.getD_eq_getD_getElem?, arrV_read _ _ (by omega)]; rfl
      rw [e0_z]
      exact ⟨(hfit _).1, (hfit _).2 _ _⟩)
    (g := F0 m pc ls (.int n_z :: .int dp :: .ref da_z :: .int sp_z :: .ref sa_z :: rest)) rfl (by rw [C0_z.hml]; exact hls) (rest := rest) rfl (by rw [C0_z.hby]; exact hdg) hframes (by show 2 * 0 + _ + _ ≤ _; omega)
  have e1_z : copied (arrV c0_z n0_z f0_z) (arrV c1_z n1_z f1_z) sp_z dp n_z = arrV c1_z n1_z (va_cpy f0_z f1_z sp_z.toNatClampNeg dp.toNatClampNeg n_z.toNatClampNeg) := va_copied (fun v_z => v_z) c0_z c1_z f0_z f1_z h4
  rw [e1_z] at X' step
  have hlt : da_z < H.size := (Array.getElem?_eq_some_iff.mp ha1).1
  have hheap : ((T.setVm vm').setCell da_z (arrV c1_z n1_z (va_cpy f0_z f1_z sp_z.toNatClampNeg dp.toNatClampNeg n_z.toNatClampNeg))).heap = H.setIfInBounds da_z (arrV c1_z n1_z (va_cpy f0_z f1_z sp_z.toNatClampNeg dp.toNatClampNeg n_z.toNatClampNeg)) := by rw [← hT_z]; rfl
  have oq : ∀ q_z : Nat, q_z ≠ da_z → (H.setIfInBounds da_z (arrV c1_z n1_z (va_cpy f0_z f1_z sp_z.toNatClampNeg dp.toNatClampNeg n_z.toNatClampNeg)))[q_z]? = H[q_z]? := fun q_z hq => by simp [Array.getElem?_setIfInBounds, Ne.symm hq]
  obtain ⟨t_z, a1_z, b1⟩ := kk _ _ (by simp [Array.getElem?_setIfInBounds, hlt]) (by simp) oq ⟨by simp; exact hS0.1, fun q_z g1 g2 => by
      rw [oq q_z (fun w_z => g2 (by rw [w_z]; exact hda))]
      exact hS0.2.1 q_z g1 g2, fun q_z hq => by
      rcases List.mem_append.mp hq with h_z | h_z
      · exact hS0.2.2 q_z h_z
      · obtain ⟨z_z, -, hz⟩ := List.mem_map.mp h_z
        rw [← hz]
        exact hda⟩ _ hheap X'
  exact ⟨t_z, step t_z a1_z, b1⟩
theorem x_copy {idx_z ra rb : Nat} {i_z n_z jd : Int} {H0 : Heap} (C0_z : CtxJ G D dA p R s m args meth c j) (hR : RelM G D dA s M H) (hS0 : va_S (aA G) H0 H locs) (hls : ls.size = (tab j).1) (hl : (onm (mow j), idx_z) ∈ acpL.map (fun q_z => (onm q_z.1, q_z.2)))
    (hab : ¬ ra = rb) (h1 : 0 ≤ i_z) (h2 : 0 ≤ jd) (h3 : 0 ≤ n_z) (h4 : i_z + n_z ≤ gN M ra) (h5 : jd + n_z ≤ gN M rb) (hframes : 1 ≤ R.frames) (hlocals : (rest.map fun v_z => v_z.category).sum + (nativeFrameWords "java/lang/System" "arraycopy" 5 + 11) ≤ R.locals) (hdg : decode (mby j) pc = .ok (.invokestatic idx_z, 3))
    {M' : Mem} (hk : (gK M ra = 100 ∧ gK M rb = 100 ∧ M' = uCI M rb jd ra i_z n_z) ∨ (gK M ra = 101 ∧ gK M rb = 101 ∧ M' = uCL M rb jd ra i_z n_z))
    (kk : ∀ (H1_z : Heap) (locs1 : List Loc), RelM G D dA s M' H1_z → va_S (aA G) H0 H1_z locs1 → W p l e R s m args below meth c H1_z locs1 cells slots Q (F0 m (pc + 3) ls rest)) : W p l e R s m args below meth c H locs cells slots Q (F0 m pc ls (cv (a_i n_z) :: cv (a_i jd) :: cv (a_r rb) :: cv (a_i i_z) :: cv (a_r ra) :: rest)) := by
  obtain ⟨a0_z, ea⟩ := rel_r hR (show gK M ra ≠ 0 by omega)
  obtain ⟨b0, eb⟩ := rel_r hR (show gK M rb ≠ 0 by omega)
  subst ea; subst eb
  obtain ⟨l1, m1_z, n0_z, g1, g2, g3_z⟩ := rel_rw hR (show gK M (a0_z + 1) = 100 ∨ gK M (a0_z + 1) = 101 ∨ gK M (a0_z + 1) = 102 ∨ (110 ≤ gK M (a0_z + 1) ∧ gK M (a0_z + 1) < 250) by omega)
  obtain ⟨l2, m2_z, n1_z, g4, g5_z, g6⟩ := rel_rw hR (show gK M (b0 + 1) = 100 ∨ gK M (b0 + 1) = 101 ∨ gK M (b0 + 1) = 102 ∨ (110 ≤ gK M (b0 + 1) ∧ gK M (b0 + 1) < 250) by omega)
  rw [g1] at h4
  rw [g4] at h5
  have hi_z : inI i_z := ⟨by omega, by omega⟩
  have hj : inI jd := ⟨by omega, by omega⟩
  have hn : inI n_z := ⟨by omega, by omega⟩
  have ci := i_clamp hi_z h1
  have cj := i_clamp hj h2
  have cn := i_clamp hn h3
  have eqi : ((i_z.toNat : Nat) : Int) = i_z := by omega
  have eqj : ((jd.toNat : Nat) : Int) = jd := by omega
  have eqn : ((n_z.toNat : Nat) : Int) = n_z := by omega
  rcases hk with ⟨k1_z, k2_z, rfl⟩ | ⟨k1_z, k2_z, rfl⟩
  · rw [k1_z] at g3_z m1_z
    rw [k2_z] at g6 m2_z
    have t1_z := (ty_of C0_z.hwk m1_z).1
    refine w_copy C0_z hS0 l2 hls hl g3_z g6 t1_z t1_z rfl (i_nneg hi_z h1) (i_nneg hj h2) (i_nneg hn h3) (by rw [ci, cn]; omega) (by rw [cj, cn]; omega) (fun q_z => ⟨rfl, fun _ _ => trivial⟩) hframes hlocals hdg fun H1_z locs1 e1_z e2_z e3_z e4_z => ?_
    rw [ci, cj, cn] at e1_z
    have ef : va_cpy (kvf M (a0_z + 1) 100) (kvf M (b0 + 1) 100) i_z.toNat jd.toNat n_z.toNat = vfI (uCI M (b0 + 1) jd (a0_z + 1) i_z n_z) (b0 + 1) := by
      funext q_z
      unfold va_cpy vfI
      rw [gI_uCI]
      by_cases hq : jd.toNat ≤ q_z ∧ q_z < jd.toNat + n_z.toNat
      · rw [if_pos hq, if_pos ⟨rfl, by omega, by omega⟩]
        show Value.int (Int32.ofInt (gI M (a0_z + 1) ((i_z.toNat + (q_z - jd.toNat) : Nat)))) = _
        rw [show ((i_z.toNat + (q_z - jd.toNat) : Nat) : Int) = i_z + (q_z - jd) by omega]
      · rw [if_neg hq, if_neg (fun w_z => hq ⟨by omega, by omega⟩)]
        rfl
    rw [ef] at e1_z
    refine kk H1_z locs1 (hR.put e2_z e3_z (by rw [e1_z, g6]; simp [arrV_size]) (fun r_z hr => agr_uCI hr) rfl rfl (fun k_z => ⟨?_, (hR.rng _ k_z).2⟩) (Or.inr (Or.inr (Or.inr (Or.inl ⟨k2_z, l2, n1_z, g4, g5_z, e1_z⟩))))) e4_z
    rw [gI_uCI]
    split <;> exact (hR.rng _ _).1
  · rw [k1_z] at g3_z m1_z
    rw [k2_z] at g6 m2_z
    have t1_z := (ty_of C0_z.hwk m1_z).1
    refine w_copy C0_z hS0 l2 hls hl g3_z g6 t1_z t1_z rfl (i_nneg hi_z h1) (i_nneg hj h2) (i_nneg hn h3) (by rw [ci, cn]; omega) (by rw [cj, cn]; omega) (fun q_z => ⟨rfl, fun _ _ => trivial⟩) hframes hlocals hdg fun H1_z locs1 e1_z e2_z e3_z e4_z => ?_
    rw [ci, cj, cn] at e1_z
    have ef : va_cpy (kvf M (a0_z + 1) 101) (kvf M (b0 + 1) 101) i_z.toNat jd.toNat n_z.toNat = vfL (uCL M (b0 + 1) jd (a0_z + 1) i_z n_z) (b0 + 1) := by
      funext q_z
      unfold va_cpy vfL
      rw [gL_uCL]
      by_cases hq : jd.toNat ≤ q_z ∧ q_z < jd.toNat + n_z.toNat
      · rw [if_pos hq, if_pos ⟨rfl, by omega, by omega⟩]
        show Value.long (Int64.ofInt (gL M (a0_z + 1) ((i_z.toNat + (q_z - jd.toNat) : Nat)))) = _
        rw [show ((i_z.toNat + (q_z - jd.toNat) : Nat) : Int) = i_z + (q_z - jd) by omega]
      · rw [if_neg hq, if_neg (fun w_z => hq ⟨by omega, by omega⟩)]
        rfl
    rw [ef] at e1_z
    refine kk H1_z locs1 (hR.put e2_z e3_z (by rw [e1_z, g6]; simp [arrV_size]) (fun r_z hr => agr_uCL hr) rfl rfl (fun k_z => ⟨(hR.rng _ k_z).1, ?_⟩) (Or.inr (Or.inr (Or.inr (Or.inr (Or.inl ⟨k2_z, l2, n1_z, g4, g5_z, e1_z⟩)))))) e4_z
    rw [gL_uCL]
    split <;> exact (hR.rng _ _).2
end XC
