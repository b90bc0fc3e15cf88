/-! THE SMALL MACHINE, part 6: fields read and written. Own work. -/
section XG
variable {p : Program} {l : Launch} {e : Env} {R : Room} {s : State} {m : MethodId} {args : Array Value} {below : List Frame} {meth : Method} {c : Code} {H : Heap} {locs : List Loc} {cells slots : Nat} {Q : State → Prop}
variable {G : Env0} {D : va_G} {dA : Nat → ClassId} {j : Nat} {M : Mem} {pc : Nat} {ls : Array Slot} {rest : List Value}
theorem CtxJ.hex (C0_z : CtxJ G D dA p R s m args meth c j) : p.tables.exec = Jvm.exec := C0_z.1
theorem CtxJ.hby (C0_z : CtxJ G D dA p R s m args meth c j) : c.code = mby j := C0_z.2.1
theorem CtxJ.hml (C0_z : CtxJ G D dA p R s m args meth c j) : c.maxLocals = (tab j).1 := C0_z.2.2.1
theorem CtxJ.hre (C0_z : CtxJ G D dA p R s m args meth c j) : meth.sig.returnType = mre j := C0_z.2.2.2.1
theorem CtxJ.hlk (C0_z : CtxJ G D dA p R s m args meth c j) : meth.locks = false := C0_z.2.2.2.2.1
theorem CtxJ.hnm (C0_z : CtxJ G D dA p R s m args meth c j) : (mty j).name = "<init>" → meth.name = "<init>" := C0_z.2.2.2.2.2.1
theorem CtxJ.how (C0_z : CtxJ G D dA p R s m args meth c j) : s.vm.findClass (onm (mow j)) = some m.cls := C0_z.2.2.2.2.2.2.1
theorem CtxJ.hts (C0_z : CtxJ G D dA p R s m args meth c j) : ∀ w ∈ gtbl, w.before args s = true := C0_z.2.2.2.2.2.2.2.1
theorem CtxJ.hwk (C0_z : CtxJ G D dA p R s m args meth c j) : WK G D dA s := C0_z.2.2.2.2.2.2.2.2.1
theorem CtxJ.hnt (C0_z : CtxJ G D dA p R s m args meth c j) : ∀ w ∈ ntbl, w.before #[] s = true := C0_z.hwk.2.1
theorem CtxJ.hfr (C0_z : CtxJ G D dA p R s m args meth c j) : mht j ≤ R.frames := C0_z.2.2.2.2.2.2.2.2.2.1
theorem CtxJ.hlo (C0_z : CtxJ G D dA p R s m args meth c j) : mlo j ≤ R.locals := C0_z.2.2.2.2.2.2.2.2.2.2.1
theorem CtxJ.hlw (C0_z : CtxJ G D dA p R s m args meth c j) : G.1 ≤ s.heap.size := C0_z.2.2.2.2.2.2.2.2.2.2.2.2.2
theorem CtxJ.hA (C0_z : CtxJ G D dA p R s m args meth c j) : ∀ q_z, s.heap.size ≤ q_z → aA G q_z := fun q_z hq => Nat.le_trans C0_z.hlw hq
theorem rel_r {r_z : Nat} (hR : RelM G D dA s M H) (h_z : gK M r_z ≠ 0) : ∃ a_z, r_z = a_z + 1 := by
  cases r_z with
  | zero => exact absurd hR.2.2.2.2.2.2.1 h_z
  | succ a_z => exact ⟨a_z, rfl⟩
theorem rel_obj {a_z ci : Nat} (hR : RelM G D dA s M H) (h_z : gK M (a_z + 1) = ci + 1) (hc_z : ci < 11) : G.1 ≤ a_z ∧ t_OB a_z (D.1 ci) (kN ci) (D.2 ci) H (fun k_z => cv (fld (ktag (kT ci k_z).2.2.1) M (a_z + 1) k_z)) := by
  rcases hR.at a_z with h0 | ⟨ci2, h1, h2, h3, h4⟩ | ⟨ci2, h1, h2, h3, h4⟩ | ⟨h1, h2, h3⟩ | ⟨h1, h2, h3⟩ | ⟨h1, h2, h3⟩ | ⟨h1, h2, h3⟩ | ⟨h1, h2, h3⟩ | ⟨kd, h1, h2, h3, h4, h5, h6⟩ | ⟨h1, h2, h3⟩
  · omega
  · have e1_z : ci = ci2 := by omega
    subst e1_z
    exact ⟨h3, h4⟩
  · omega
  all_goals omega
theorem rel_ro {a_z ci : Nat} (hR : RelM G D dA s M H) (h_z : gK M (a_z + 1) = ci + 1) (hc_z : ci = 40 ∨ ci = 41) : a_z < G.1 ∧ roObj ci s M H a_z := by
  rcases hR.at a_z with h0 | ⟨ci2, h1, h2, h3, h4⟩ | ⟨ci2, h1, h2, h3, h4⟩ | ⟨h1, h2, h3⟩ | ⟨h1, h2, h3⟩ | ⟨h1, h2, h3⟩ | ⟨h1, h2, h3⟩ | ⟨h1, h2, h3⟩ | ⟨kd, h1, h2, h3, h4, h5, h6⟩ | ⟨h1, h2, h3⟩
  · omega
  · omega
  · have e1_z : ci = ci2 := by omega
    subst e1_z
    exact ⟨h3, h4⟩
  all_goals omega
/-- a field read -/
theorem x_get {idx_z ci t_z k_z r_z : Nat} (C0_z : CtxJ G D dA p R s m args meth c j) (hR : RelM G D dA s M H) (hf : fldOk (mow j, idx_z, ci, t_z, k_z)) (hK_z : gK M r_z = ci + 1) (hdg : decode (mby j) pc = .ok (.getfield idx_z, 3))
    (kk : W p l e R s m args below meth c H locs cells slots Q (F0 m (pc + 3) ls (cv (fld t_z M r_z k_z) :: rest))) : W p l e R s m args below meth c H locs cells slots Q (F0 m pc ls (cv (a_r r_z) :: rest)) := by
  obtain ⟨a0_z, ea⟩ := rel_r hR (show gK M r_z ≠ 0 by omega)
  subst ea
  obtain ⟨f1_z, f2_z, f3_z, f4_z, f5_z, f6_z⟩ := hf
  obtain ⟨-, cell_z, q1_z, q2_z, q3_z, q4_z⟩ := rel_obj hR hK_z f1_z
  obtain ⟨hS_z, hfc, kC_z, hkC, hkind⟩ := C0_z.hwk.1.1 ci _ (kcl_at ci f1_z)
  obtain ⟨cf_z, kf, fi, f_z, hi_z, hsl⟩ := hS_z k_z f2_z
  have hst := (u_facts hfc hkC (u_lays C0_z.hts (kin ci f1_z) f2_z) hi_z).1
  rw [f4_z] at hi_z
  have hslot : cell_z.slots[f_z.slot]? = some (cv (fld t_z M (a0_z + 1) k_z)) := by rw [hsl, q4_z k_z f2_z, ← f3_z]
  rcases f6_z with g_z | g_z
  · exact W.getf C0_z.hex C0_z.hby C0_z.how (C0_z.hts _ g_z) hi_z hst q1_z (by rw [q3_z]; exact fun h_z => by cases h_z) hslot rfl rfl hdg kk
  · exact va_Wgetf C0_z.hex C0_z.hby C0_z.how (va_Nw.use rfl (C0_z.hnt _ g_z)) hi_z hst q1_z (by rw [q3_z]; exact fun h_z => by cases h_z) hslot rfl rfl hdg kk
theorem x_getO {idx_z ci t_z k_z r_z : Nat} (C0_z : CtxJ G D dA p R s m args meth c j) (hR : RelM G D dA s M H) (hf : rofOk (mow j, idx_z, ci, t_z, k_z) = true) (hK_z : gK M r_z = ci + 1) (hdg : decode (mby j) pc = .ok (.getfield idx_z, 3))
    (kk : W p l e R s m args below meth c H locs cells slots Q (F0 m (pc + 3) ls (cv (fld t_z M r_z k_z) :: rest))) : W p l e R s m args below meth c H locs cells slots Q (F0 m pc ls (cv (a_r r_z) :: rest)) := by
  obtain ⟨a0_z, ea⟩ := rel_r hR (show gK M r_z ≠ 0 by omega)
  subst ea
  simp only [rofOk, Bool.and_eq_true, Bool.or_eq_true, decide_eq_true_eq, Nat.blt_eq, Nat.beq_eq] at hf
  obtain ⟨⟨⟨f1_z, f2_z⟩, f3_z⟩, f6_z⟩ := hf
  obtain ⟨-, cell_z, q1_z, q2_z, q3_z, q5_z, q4_z⟩ := rel_ro hR hK_z f1_z
  obtain ⟨cf_z, kf, fi, f_z, hi_z, hst, hslot⟩ := q4_z k_z f2_z
  rw [f3_z] at hslot
  rcases f6_z with g_z | g_z
  · exact W.getf C0_z.hex C0_z.hby C0_z.how (C0_z.hts _ g_z) hi_z hst q1_z q2_z hslot rfl rfl hdg kk
  · exact va_Wgetf C0_z.hex C0_z.hby C0_z.how (va_Nw.use rfl (C0_z.hnt _ g_z)) hi_z hst q1_z q2_z hslot rfl rfl hdg kk
theorem ky_ok {t_z : Nat} {y_z : FieldType} (h_z : kyOk t_z y_z = true) {v_z : AV} (hv : okv v_z) (hm_z : (t_z = 0 ∧ ∃ z_z, v_z = a_i z_z) ∨ (t_z = 1 ∧ ∃ z_z, v_z = a_l z_z) ∨ (t_z = 2 ∧ ∃ z_z, v_z = a_r z_z) ∨ (t_z = 3 ∧ ∃ z_z, v_z = a_i z_z ∧ isT z_z)) : narrow y_z (cv v_z) = cv v_z ∧ fits y_z (cv v_z) = true := by
  rcases hm_z with ⟨rfl, z_z, rfl⟩ | ⟨rfl, z_z, rfl⟩ | ⟨rfl, z_z, rfl⟩ | ⟨rfl, z_z, rfl, hz⟩
  · cases y_z <;> simp [kyOk] at h_z
    exact ⟨rfl, rfl⟩
  · cases y_z <;> simp [kyOk] at h_z
    exact ⟨rfl, rfl⟩
  · cases y_z <;> simp [kyOk] at h_z
    · cases z_z <;> exact ⟨rfl, rfl⟩
    · cases z_z <;> exact ⟨rfl, rfl⟩
  · cases y_z <;> simp [kyOk] at h_z
    rcases hz with rfl | rfl <;> exact ⟨by decide, by decide⟩
/-- a field written; what the new memory is comes from outside -/
theorem x_put {idx_z ci t_z k_z r_z : Nat} {v_z : AV} {M' : Mem} {H0 : Heap} (C0_z : CtxJ G D dA p R s m args meth c j) (hR : RelM G D dA s M H) (hS0 : va_S (aA G) H0 H locs) (hf : fldOk (mow j, idx_z, ci, t_z, k_z)) (hfin : (kT ci k_z).2.2.2 = true → (mty j).name = "<init>" ∧ kR ci = onm (mow j)) (hK_z : gK M r_z = ci + 1) (hv : okv v_z)
    (hm_z : (t_z = 0 ∧ ∃ z_z, v_z = a_i z_z) ∨ (t_z = 1 ∧ ∃ z_z, v_z = a_l z_z) ∨ (t_z = 2 ∧ ∃ z_z, v_z = a_r z_z) ∨ (t_z = 3 ∧ ∃ z_z, v_z = a_i z_z ∧ isT z_z)) (hag : ∀ q_z, q_z ≠ r_z → agr M M' q_z) (hKr : gK M' r_z = gK M r_z) (ez : gz M' = gz M) (es : gs M' = gs M) (hrng : ∀ q_z, inI (gI M' r_z q_z) ∧ inL (gL M' r_z q_z))
    (hfl : ∀ k2_z, k2_z < kN ci → fld (ktag (kT ci k2_z).2.2.1) M' r_z k2_z = if k2_z = k_z then v_z else fld (ktag (kT ci k2_z).2.2.1) M r_z k2_z) (hdg : decode (mby j) pc = .ok (.putfield idx_z, 3))
    (kk : ∀ (H1_z : Heap) (locs1 : List Loc), RelM G D dA s M' H1_z → va_S (aA G) H0 H1_z locs1 → W p l e R s m args below meth c H1_z locs1 cells slots Q (F0 m (pc + 3) ls rest)) : W p l e R s m args below meth c H locs cells slots Q (F0 m pc ls (cv v_z :: cv (a_r r_z) :: rest)) := by
  obtain ⟨a0_z, ea⟩ := rel_r hR (show gK M r_z ≠ 0 by omega)
  subst ea
  obtain ⟨f1_z, f2_z, f3_z, f4_z, f5_z, f6_z⟩ := hf
  obtain ⟨hlow, cell_z, q1_z, q2_z, q3_z, q4_z⟩ := rel_obj hR hK_z f1_z
  have hap := va_apart (own := onm (mow j)) C0_z.hts (kin ci f1_z) (kY ci) (kty ci f1_z) (knm ci f1_z) C0_z.hwk.1 (kcl_at ci f1_z)
  obtain ⟨hS_z, hfc, kC_z, hkC, hkind⟩ := C0_z.hwk.1.1 ci _ (kcl_at ci f1_z)
  obtain ⟨cf_z, kf, fi, f_z, hi_z, hsl⟩ := hS_z k_z f2_z
  have hlay := u_lays C0_z.hts (kin ci f1_z) f2_z
  have hst := (u_facts hfc hkC hlay hi_z).1
  obtain ⟨n1_z, n2_z⟩ := ky_ok f5_z hv hm_z
  have h6 := u_fits hfc hkC hkind hlay hi_z (kty ci f1_z k_z f2_z) n1_z n2_z
  have hknown : cell_z.vm ≠ .unknown := by rw [q3_z]; exact fun h_z => by cases h_z
  have hlt : f_z.slot < cell_z.slots.size := by rw [hsl]; exact k2_hasslot (q4_z k_z f2_z)
  have hno : hasFlag f_z.accessFlags Acc.final = false ∨ (m.cls = cf_z ∧ meth.name = "<init>") := by
    cases hff : (kT ci k_z).2.2.2 with
    | false =>
      have h7 := C0_z.hts _ (kin ci f1_z _ (u_in_lay f2_z))
      unfold u_lay at h7
      rw [if_neg (by rw [hff]; decide)] at h7
      exact Or.inl (u_store hfc hkC hkind h7 hi_z (kty ci f1_z k_z f2_z) n1_z n2_z).1
    | true =>
      have h7 := C0_z.hts _ (kin ci f1_z _ (u_in_lay f2_z))
      unfold u_lay at h7
      rw [if_pos hff] at h7
      obtain ⟨_, _, c', _, _, _, -, -, hf', -, -, -, hown2, -⟩ := Cond.laysFinal_spec h7
      have e1_z : c' = cf_z := by have := hi_z.symm.trans hf'; simp at this; exact this.1.symm
      rw [f4_z, (hfin hff).2] at hown2
      exact Or.inr ⟨by rw [← e1_z]; exact Option.some.inj (C0_z.how.symm.trans hown2), C0_z.hnm (hfin hff).1⟩
  have hal : a0_z < H.size := (Array.getElem?_eq_some_iff.mp q1_z).1
  have hnew : ∀ H' : Heap, H'[a0_z]? = some (cell_z.setSlot f_z.slot (cv v_z)) → H'.size = H.size → (∀ q_z : Nat, q_z ≠ a0_z → H'[q_z]? = H[q_z]?) → RelM G D dA s M' H' ∧ va_S (aA G) H0 H' (locs ++ [⟨a0_z, f_z.slot⟩]) := by
    intro H' e1_z e2_z e3_z
    refine ⟨hR.put e2_z e3_z ?_ hag ez es hrng (Or.inr (Or.inl ⟨ci, by rw [hKr]; exact hK_z, f1_z, hlow, ?_⟩)), hS0.put e2_z e3_z hlow⟩
    · rw [e1_z, q1_z]
      simp [Cell.setSlot]
    · rw [hsl] at e1_z
      refine t_OB.to (V := updV (fun k2_z => cv (fld (ktag (kT ci k2_z).2.2.1) M (a0_z + 1) k2_z)) k_z (cv v_z)) ⟨_, e1_z, q2_z, q3_z, t_set q4_z hap f2_z (cv v_z)⟩ (fun k2_z hk2 => ?_)
      rw [hfl k2_z hk2]
      unfold updV
      split <;> rfl
  have hself : (H.setIfInBounds a0_z (cell_z.setSlot f_z.slot (cv v_z)))[a0_z]? = some (cell_z.setSlot f_z.slot (cv v_z)) := by simp [Array.getElem?_setIfInBounds, hal]
  have hoth : ∀ q_z : Nat, q_z ≠ a0_z → (H.setIfInBounds a0_z (cell_z.setSlot f_z.slot (cv v_z)))[q_z]? = H[q_z]? := fun q_z hq => by simp [Array.getElem?_setIfInBounds, Ne.symm hq]
  obtain ⟨w1_z, w2_z⟩ := hnew _ hself (by simp) hoth
  rw [f4_z] at hi_z
  rcases f6_z with g_z | g_z
  · exact W.putf C0_z.hex C0_z.hby C0_z.how (C0_z.hts _ g_z) hi_z hst hno q1_z hknown hlt h6.1 (by rw [q2_z, q3_z]; exact h6.2) rfl rfl hdg (kk _ _ w1_z w2_z)
  · exact va_Wputf C0_z.hex C0_z.hby C0_z.how (va_Nw.use rfl (C0_z.hnt _ g_z)) hi_z hst hno q1_z hknown hlt h6.1 (by rw [q2_z, q3_z]; exact h6.2) rfl rfl hdg (kk _ _ w1_z w2_z)
end XG
