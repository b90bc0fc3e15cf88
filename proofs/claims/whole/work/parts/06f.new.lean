/-! THE SMALL MACHINE, part 6: new cells, statics, a copy of a row. Own work. -/
def kyk (ci : Nat) : Bool := (List.range (kN ci)).all (fun k_z => kyOk (ktag (kT ci k_z).2.2.1) (kY ci k_z))
theorem kyk_all : (List.range 11).all kyk = true := by decide +kernel
theorem kyk_ok {ci : Nat} (hc_z : ci < 11) {k_z : Nat} (hk : k_z < kN ci) : kyOk (ktag (kT ci k_z).2.2.1) (kY ci k_z) = true := by
  have h1 := List.all_eq_true.mp kyk_all ci (List.mem_range.mpr hc_z)
  exact List.all_eq_true.mp h1 k_z (List.mem_range.mpr hk)
theorem ky_def {t_z : Nat} {y_z : FieldType} (h_z : kyOk t_z y_z = true) {M_z : Mem} {r_z : Nat} {k_z : Int} (h1 : gI M_z r_z k_z = 0) (h2 : gL M_z r_z k_z = 0) (h3 : gR M_z r_z k_z = 0) : defaultValue y_z = cv (fld t_z M_z r_z k_z) := by
  match t_z, y_z, h_z with
  | 0, .int, _ => simp only [fld, h1]; rfl
  | 1, .long, _ => simp only [fld, h2]; rfl
  | 3, .boolean, _ => simp only [fld, h1]; rfl
  | 2, .object _, _ => simp only [fld, h3]; rfl
  | 2, .array _, _ => simp only [fld, h3]; rfl
section XN
variable {p : Program} {l : Launch} {e : Env} {R : Room} {s : State} {m : MethodId} {args : Array Value} {below : List Frame} {meth : Method} {c : Code} {H : Heap} {locs : List Loc} {cells slots : Nat} {Q : State → Prop}
variable {G : Env0} {D : va_G} {dA : Nat → ClassId} {j : Nat} {M : Mem} {pc : Nat} {ls : Array Slot} {rest : List Value}
theorem x_new {idx_z ci n_z : Nat} {H0 : Heap} (C0_z : CtxJ G D dA p R s m args meth c j) (hR : RelM G D dA s M H) (hS0 : va_S (aA G) H0 H locs) (hc_z : ci < 11) (hn : kN ci = n_z) (hcl : Cond.classLink (onm (mow j)) idx_z (kR ci) ∈ gtbl) (hins : Cond.instantiable (kR ci) n_z ∈ gtbl) (hini : Cond.initialized (kR ci) ∈ gtbl)
    (hroom : roomOk G M n_z) (hdg : decode (mby j) pc = .ok (.new idx_z, 3))
    (kk : ∀ (H1_z : Heap) (kCells kSlots : Nat), RelM G D dA s (uN M (ci + 1) 0 n_z) H1_z → va_S (aA G) H0 H1_z locs → W p l e R s m args below meth c H1_z locs kCells kSlots Q (F0 m (pc + 3) ls (cv (a_r (gz M + 1)) :: rest))) : W p l e R s m args below meth c H locs cells slots Q (F0 m pc ls rest) := by
  refine w_exact C0_z hR fun kC_z kS h1 h2 => ?_
  obtain ⟨r1_z, r2, r3, r4, r5_z, r6, r7, r8⟩ := id hR
  refine W.newc C0_z.hex C0_z.hby C0_z.how (C0_z.hts _ hcl) (C0_z.hts _ hins) (C0_z.hts _ hini) rfl hdg (by have := hroom.1; omega) (by have := hroom.2; omega) fun cC kC2 f1_z f2_z f3_z f4_z => ?_
  have hKn := C0_z.hwk.1.1 ci _ (kcl_at ci hc_z)
  have e0_z : cC = D.1 ci := Option.some.inj (f1_z.symm.trans hKn.2.1)
  subst e0_z
  generalize hH1 : H.push ({ cls := D.1 ci, slots := kC2.instanceTypes.map defaultValue, vm := .none } : Cell) = H1_z
  have z1 : H1_z.size = H.size + 1 := by rw [← hH1, Array.size_push]
  have e1_z : H1_z[H.size]? = some (blank (D.1 ci) kC2) := by rw [← hH1, Array.getElem?_push_size]; rfl
  have o1 : ∀ q_z : Nat, q_z < H.size → H1_z[q_z]? = H[q_z]? := fun q_z hq => by rw [← hH1, Array.getElem?_push, if_neg (Nat.ne_of_lt hq)]
  have hob := u_born (kY ci) C0_z.hts (kin ci hc_z) hKn f2_z e1_z (kty ci hc_z)
  rw [r1_z] at kk
  refine kk H1_z _ _ (hR.push z1 e1_z (by show (kC2.instanceTypes.map defaultValue).size = n_z; rw [Array.size_map]; exact f4_z) o1 hroom (fun r_z hr => agr_uN hr) rfl rfl (fun k_z => ?_) ?_) ⟨Nat.le_trans hS0.1 (by omega), fun x_z g1 g2 => (o1 x_z (Nat.lt_of_lt_of_le g1 hS0.1)).trans (hS0.2.1 x_z g1 g2), hS0.2.2⟩
  · rw [gI_uN, gL_uN, if_pos rfl, if_pos rfl]
    exact ⟨i_z, by decide, by decide⟩
  · refine Or.inr (Or.inl ⟨ci, by rw [gK_uN, if_pos (by rw [r1_z])], hc_z, r3, hob.to fun k_z hk => ?_⟩)
    exact ky_def (kyk_ok hc_z hk) (by rw [gI_uN, if_pos (by rw [r1_z])]) (by rw [gL_uN, if_pos (by rw [r1_z])]) (by rw [gR_uN, if_pos (by rw [r1_z])])
theorem rel_new {kd n_z : Nat} {cA_z : ClassId} {dv : Value} {H1_z : Heap} (hR : RelM G D dA s M H) (hroom : roomOk G M n_z) (hn : n_z ≤ 1000000) (hcA : cA_z = dA kd) (hk : (kd = 100 ∧ dv = .int 0) ∨ (kd = 102 ∧ dv = .int 0) ∨ (kd = 101 ∧ dv = .long 0) ∨ (110 ≤ kd ∧ kd < 250 ∧ (kd, FieldType.object (elR kd)) ∈ tyA ∧ dv = .null))
    (z1 : H1_z.size = H.size + 1) (e1_z : H1_z[H.size]? = some (arrV cA_z n_z (fun _ => dv))) (o1 : ∀ q_z : Nat, q_z < H.size → H1_z[q_z]? = H[q_z]?) : RelM G D dA s (uN M kd n_z n_z) H1_z := by
  subst hcA
  obtain ⟨r1_z, r2, r3, r4, r5_z, r6, r7, r8⟩ := id hR
  refine hR.push z1 e1_z (arrV_size _ _ _) o1 hroom (fun r_z hr => agr_uN hr) rfl rfl (fun k_z => ?_) ?_
  · rw [gI_uN, gL_uN, if_pos rfl, if_pos rfl]
    exact ⟨i_z, by decide, by decide⟩
  · have g1 : gK (uN M kd n_z n_z) (H.size + 1) = kd := by rw [gK_uN, if_pos (by rw [r1_z])]
    have g2 : gN (uN M kd n_z n_z) (H.size + 1) = n_z := by rw [gN_uN, if_pos (by rw [r1_z])]
    have vi : vfI (uN M kd n_z n_z) (H.size + 1) = fun _ => .int 0 := by
      funext q_z; unfold vfI; rw [gI_uN, if_pos (by rw [r1_z])]; rfl
    have vl : vfL (uN M kd n_z n_z) (H.size + 1) = fun _ => .long 0 := by
      funext q_z; unfold vfL; rw [gL_uN, if_pos (by rw [r1_z])]; rfl
    have vr : vfR (uN M kd n_z n_z) (H.size + 1) = fun _ => .null := by
      funext q_z; unfold vfR; rw [gR_uN, if_pos (by rw [r1_z])]; rfl
    rcases hk with ⟨rfl, rfl⟩ | ⟨rfl, rfl⟩ | ⟨rfl, rfl⟩ | ⟨k1_z, k2_z, k3_z, rfl⟩
    · exact Or.inr (Or.inr (Or.inr (Or.inl ⟨g1, r3, n_z, g2, hn, by rw [vi]; exact e1_z⟩)))
    · exact Or.inr (Or.inr (Or.inr (Or.inr (Or.inr (Or.inl ⟨g1, r3, n_z, g2, hn, by rw [vi]; exact e1_z⟩)))))
    · exact Or.inr (Or.inr (Or.inr (Or.inr (Or.inl ⟨g1, r3, n_z, g2, hn, by rw [vl]; exact e1_z⟩))))
    · exact Or.inr (Or.inr (Or.inr (Or.inr (Or.inr (Or.inr (Or.inr (Or.inr (Or.inl ⟨kd, g1, k1_z, k2_z, k3_z, r3, n_z, g2, hn, by rw [vr]; exact e1_z⟩))))))))
theorem x_newa {at__z : ArrayType} {kd : Nat} {z_z : Int} {H0 : Heap} (C0_z : CtxJ G D dA p R s m args meth c j) (hR : RelM G D dA s M H) (hS0 : va_S (aA G) H0 H locs) (h0 : 0 ≤ z_z) (h1 : z_z ≤ 1000000) (hk : (kd = 100 ∧ at__z = .int) ∨ (kd = 101 ∧ at__z = .long) ∨ (kd = 102 ∧ at__z = .boolean))
    (hroom : roomOk G M z_z.toNat) (hdg : decode (mby j) pc = .ok (.newarray at__z, 2))
    (kk : ∀ (H1_z : Heap) (kCells kSlots : Nat), RelM G D dA s (uN M kd z_z z_z.toNat) H1_z → va_S (aA G) H0 H1_z locs → W p l e R s m args below meth c H1_z locs kCells kSlots Q (F0 m (pc + 2) ls (cv (a_r (gz M + 1)) :: rest))) : W p l e R s m args below meth c H locs cells slots Q (F0 m pc ls (cv (a_i z_z) :: rest)) := by
  refine w_exact C0_z hR fun kC_z kS q1_z q2_z => ?_
  obtain ⟨r1_z, r2, r3, r4, r5_z, r6, r7, r8⟩ := id hR
  have hi_z : inI z_z := ⟨by omega, by omega⟩
  have e1_z := i_clamp hi_z h0
  have ez : ((z_z.toNat : Nat) : Int) = z_z := by omega
  have harc := arcL_ok
  simp only [Bool.and_eq_true, decide_eq_true_eq] at harc
  have hty : ∃ ty_z, newarray.typeOf at__z = ty_z ∧ (kd, ty_z) ∈ tyA ∧ Cond.arrayClass ty_z ∈ gtbl ∧ z_z.toNat * componentBytes ty_z ≤ 536870912 ∧ ((kd = 100 ∧ defaultValue ty_z = .int 0) ∨ (kd = 102 ∧ defaultValue ty_z = .int 0) ∨ (kd = 101 ∧ defaultValue ty_z = .long 0) ∨ (110 ≤ kd ∧ kd < 250 ∧ (kd, FieldType.object (elR kd)) ∈ tyA ∧ defaultValue ty_z = .null)) ∧ (∀ cA_z, va_RA s cA_z ty_z → s.vm.findClass ("[" ++ ty_z.toString) = some cA_z) := by
    rcases hk with ⟨rfl, rfl⟩ | ⟨rfl, rfl⟩ | ⟨rfl, rfl⟩
    · exact ⟨.int, rfl, by decide, harc.1.1, by show z_z.toNat * 4 ≤ _; omega, Or.inl ⟨rfl, rfl⟩, fun _ h_z => h_z⟩
    · exact ⟨.long, rfl, by decide, harc.1.2, by show z_z.toNat * 8 ≤ _; omega, Or.inr (Or.inr (Or.inl ⟨rfl, rfl⟩)), fun _ h_z => h_z⟩
    · exact ⟨.boolean, rfl, by decide, harc.2, by show z_z.toNat * 1 ≤ _; omega, Or.inr (Or.inl ⟨rfl, rfl⟩), fun _ h_z => h_z⟩
  obtain ⟨ty_z, t1_z, t2_z, t3_z, t4_z, t5_z, t6⟩ := hty
  have hra := (ty_of C0_z.hwk t2_z).2
  refine va_newaK C0_z.hex C0_z.hby (by rw [t1_z]; exact C0_z.hts _ t3_z) rfl hdg rfl (i_nneg hi_z h0) e1_z (by rw [t1_z]; exact t4_z) (by have := hroom.1; omega) (by have := hroom.2; omega) rfl fun H1_z cA_z f1_z f2_z f3_z f4_z f5_z => ?_
  rw [t1_z] at f1_z f5_z
  rw [r1_z] at kk
  have e9_z : cA_z = dA kd := Option.some.inj (f5_z.symm.trans (t6 _ hra))
  refine kk H1_z _ _ ?_ ⟨Nat.le_trans hS0.1 (by omega), fun x_z g1 g2 => (f3_z x_z (Nat.lt_of_lt_of_le g1 hS0.1)).trans (hS0.2.1 x_z g1 g2), hS0.2.2⟩
  have := rel_new hR hroom (by omega) e9_z t5_z f2_z f1_z f3_z
  rw [ez] at this
  exact this
theorem x_anew {idx_z kd : Nat} {z_z : Int} {H0 : Heap} (C0_z : CtxJ G D dA p R s m args meth c j) (hR : RelM G D dA s M H) (hS0 : va_S (aA G) H0 H locs) (h0 : 0 ≤ z_z) (h1 : z_z ≤ 1000000) (hk : 110 ≤ kd ∧ kd < 250 ∧ (kd, FieldType.object (elR kd)) ∈ tyA) (hcl : Cond.classLink (onm (mow j)) idx_z (elR kd) ∈ gtbl) (hov : Cond.arrayOver (.object (elR kd)) ∈ ntbl)
    (hroom : roomOk G M z_z.toNat) (hdg : decode (mby j) pc = .ok (.anewarray idx_z, 3))
    (kk : ∀ (H1_z : Heap) (kCells kSlots : Nat), RelM G D dA s (uN M kd z_z z_z.toNat) H1_z → va_S (aA G) H0 H1_z locs → W p l e R s m args below meth c H1_z locs kCells kSlots Q (F0 m (pc + 3) ls (cv (a_r (gz M + 1)) :: rest))) : W p l e R s m args below meth c H locs cells slots Q (F0 m pc ls (cv (a_i z_z) :: rest)) := by
  refine w_exact C0_z hR fun kC_z kS q1_z q2_z => ?_
  obtain ⟨r1_z, r2, r3, r4, r5_z, r6, r7, r8⟩ := id hR
  have hi_z : inI z_z := ⟨by omega, by omega⟩
  have e1_z := i_clamp hi_z h0
  have ez : ((z_z.toNat : Nat) : Int) = z_z := by omega
  have hra := (ty_of C0_z.hwk hk.2.2).2
  obtain ⟨kA0, comp0, -, -, -, hra4⟩ := hra
  refine W.anew C0_z.hex C0_z.hby C0_z.how (C0_z.hts _ hcl) (va_AO.use (C0_z.hnt _ hov)) rfl hdg rfl (i_nneg hi_z h0) (by rw [e1_z]; omega) (by have := hroom.1; omega) (by rw [e1_z]; have := hroom.2; omega) fun cA_z kA_z comp f1_z f2_z f3_z f4_z => ?_
  rw [e1_z]
  have e9_z : cA_z = dA kd := Option.some.inj (f1_z.symm.trans hra4)
  generalize hH1 : H.push ({ cls := cA_z, slots := Array.replicate z_z.toNat .null, vm := .none } : Cell) = H1_z
  have z1 : H1_z.size = H.size + 1 := by rw [← hH1, Array.size_push]
  have g1 : H1_z[H.size]? = some (arrV cA_z z_z.toNat (fun _ => .null)) := by rw [← hH1, Array.getElem?_push_size, ← arrV_new]
  have o1 : ∀ q_z : Nat, q_z < H.size → H1_z[q_z]? = H[q_z]? := fun q_z hq => by rw [← hH1, Array.getElem?_push, if_neg (Nat.ne_of_lt hq)]
  rw [r1_z] at kk
  refine kk H1_z _ _ ?_ ⟨Nat.le_trans hS0.1 (by omega), fun x_z w1_z w2_z => (o1 x_z (Nat.lt_of_lt_of_le w1_z hS0.1)).trans (hS0.2.1 x_z w1_z w2_z), hS0.2.2⟩
  have := rel_new hR hroom (by omega) e9_z (Or.inr (Or.inr (Or.inr ⟨hk.1, hk.2.1, hk.2.2, rfl⟩))) z1 g1 o1
  rw [ez] at this
  exact this
theorem x_gets {idx_z a_z b_z : Nat} {z_z : Int} (C0_z : CtxJ G D dA p R s m args meth c j) (hS0 : va_S (aA G) s.heap H locs) (hf : ∃ k_z, stOk (mow j, idx_z, a_z, b_z, k_z) = true ∧ (k_z : Int) = z_z) (hdg : decode (mby j) pc = .ok (.getstatic idx_z, 3))
    (kk : ∀ v_z : AV, ((b_z = 2 ∧ v_z = a_r (G.2 a_z)) ∨ (b_z = 0 ∧ v_z = a_i z_z ∧ inI z_z)) → W p l e R s m args below meth c H locs cells slots Q (F0 m (pc + 3) ls (cv v_z :: rest))) : W p l e R s m args below meth c H locs cells slots Q (F0 m pc ls rest) := by
  obtain ⟨k_z, hf, hz⟩ := hf
  obtain ⟨-, hnt, hst, hsi⟩ := C0_z.hwk
  match b_z, hf with
  | 2, hf =>
    simp only [stOk, Bool.and_eq_true, Bool.or_eq_true, decide_eq_true_eq, Nat.blt_eq] at hf
    have hZ := hst a_z hf.1
    rcases hf.2 with g_z | g_z
    · exact va_gets C0_z.hex C0_z.hby hZ hS0 C0_z.how (C0_z.hts _ g_z) (fun _ h9 => h9) hdg (kk _ (Or.inl ⟨rfl, rfl⟩))
    · exact va_getsN C0_z.hex C0_z.hby hZ hS0 C0_z.how (va_Nw.use rfl (hnt _ g_z)) (fun _ h9 => h9) hdg (kk _ (Or.inl ⟨rfl, rfl⟩))
  | 0, hf =>
    simp only [stOk, Bool.and_eq_true, decide_eq_true_eq, Nat.beq_eq] at hf
    have e1_z : z_z = 1 := by rw [← hz, hf.1]; rfl
    subst e1_z
    exact va_gets C0_z.hex C0_z.hby hsi hS0 C0_z.how (C0_z.hts _ hf.2) (fun _ h9 => h9) hdg (kk (a_i 1) (Or.inr ⟨rfl, rfl, by decide, by decide⟩))
end XN
