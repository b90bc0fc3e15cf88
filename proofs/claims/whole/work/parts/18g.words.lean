/-! THE PURE PART, part 18: words. Own work. -/
/-- the n_z letters from x_z on are the i_z-th word -/
abbrev wEq (t : Int → Int) (x_z n_z : Int) (i_z : Nat) : Prop := n_z = ((opB i_z).length : Int) ∧ ∀ j_z : Nat, j_z < (opB i_z).length → t (x_z + j_z) = (((opB i_z).getD j_z 0 : Nat) : Int)
def fdO (t : Int → Int) (x_z n_z : Int) : Nat → Nat → Int
  | _, 0 => -1
  | i_z, d_z + 1 => if wEq t x_z n_z i_z then (i_z : Int) else fdO t x_z n_z (i_z + 1) d_z
theorem fdO_bd (t : Int → Int) (x_z n_z : Int) : ∀ (d_z i_z : Nat), fdO t x_z n_z i_z d_z = -1 ∨ ((i_z : Int) ≤ fdO t x_z n_z i_z d_z ∧ fdO t x_z n_z i_z d_z < i_z + d_z)
  | 0, i_z => Or.inl rfl
  | d_z + 1, i_z => by
    have := fdO_bd t x_z n_z d_z (i_z + 1)
    unfold fdO
    split <;> omega
/-- a word as a number -/
def lL (l : List Nat) : Nat → Int
  | 0 => 0
  | k_z + 1 => lL l k_z * 256 + ((l.getD k_z 0 : Nat) : Int)
def wC (i_z : Nat) : Int := lL (opB i_z) (opB i_z).length
def fdV (v_z : Int) : Nat → Nat → Int
  | _, 0 => -1
  | i_z, d_z + 1 => if v_z = wC i_z then (i_z : Int) else fdV v_z (i_z + 1) d_z
theorem lL_nn (l : List Nat) : ∀ k_z, 0 ≤ lL l k_z
  | 0 => Int.le_refl _
  | k_z + 1 => by
    have := lL_nn l k_z
    show 0 ≤ lL l k_z * 256 + ((l.getD k_z 0 : Nat) : Int)
    omega
theorem wdL_nn (t : Int → Int) (x_z : Int) : ∀ n_z : Nat, (∀ i_z : Nat, i_z < n_z → 1 ≤ t (x_z + i_z)) → 0 ≤ wdL t x_z n_z
  | 0, _ => Int.le_refl _
  | k_z + 1, h_z => by
    have := wdL_nn t x_z k_z (fun i_z hi_z => h_z i_z (by omega))
    have q_z := h_z k_z (by omega)
    show 0 ≤ wdL t x_z k_z * 256 + t (x_z + k_z)
    omega
theorem wdL_inj (t : Int → Int) (x_z : Int) (l : List Nat) : ∀ (n_z k_z : Nat), (∀ i_z : Nat, i_z < n_z → 1 ≤ t (x_z + i_z) ∧ t (x_z + i_z) ≤ 255) → (∀ i_z : Nat, i_z < k_z → 1 ≤ l.getD i_z 0 ∧ l.getD i_z 0 ≤ 255) → (wdL t x_z n_z = lL l k_z ↔ n_z = k_z ∧ ∀ j_z : Nat, j_z < k_z → t (x_z + j_z) = ((l.getD j_z 0 : Nat) : Int))
  | 0, 0, _, _ => ⟨fun _ => ⟨rfl, fun j_z hj => absurd hj (by omega)⟩, fun _ => rfl⟩
  | 0, k_z + 1, _, hl => by
    have q_z := hl k_z (by omega)
    have := lL_nn l k_z
    have e_z : lL l (k_z + 1) = lL l k_z * 256 + ((l.getD k_z 0 : Nat) : Int) := rfl
    have e0_z : wdL t x_z 0 = 0 := rfl
    rw [e_z, e0_z]
    exact ⟨fun w_z => absurd w_z (by omega), fun w_z => absurd w_z.1 (by omega)⟩
  | n_z + 1, 0, ht, _ => by
    have q_z := ht n_z (by omega)
    have := wdL_nn t x_z n_z (fun i_z hi_z => (ht i_z (by omega)).1)
    have e_z : wdL t x_z (n_z + 1) = wdL t x_z n_z * 256 + t (x_z + n_z) := rfl
    have e0_z : lL l 0 = 0 := rfl
    rw [e_z, e0_z]
    exact ⟨fun w_z => absurd w_z (by omega), fun w_z => absurd w_z.1 (by omega)⟩
  | n_z + 1, k_z + 1, ht, hl => by
    have ih_z := wdL_inj t x_z l n_z k_z (fun i_z hi_z => ht i_z (by omega)) (fun i_z hi_z => hl i_z (by omega))
    have q_z := hl k_z (by omega)
    have q2_z := ht n_z (by omega)
    have e_z : lL l (k_z + 1) = lL l k_z * 256 + ((l.getD k_z 0 : Nat) : Int) := rfl
    have e2_z : wdL t x_z (n_z + 1) = wdL t x_z n_z * 256 + t (x_z + n_z) := rfl
    rw [e_z, e2_z]
    constructor
    · intro w_z
      obtain ⟨w1_z, w2_z⟩ := ih_z.mp (by omega)
      refine ⟨by omega, fun j_z hj => ?_⟩
      by_cases c_z : j_z = k_z
      · subst c_z
        subst w1_z
        omega
      · exact w2_z j_z (by omega)
    · intro ⟨w1_z, w2_z⟩
      have w3_z : n_z = k_z := by omega
      have w4_z := ih_z.mpr ⟨w3_z, fun j_z hj => w2_z j_z (by omega)⟩
      have w5 := w2_z k_z (by omega)
      rw [w4_z]
      subst w3_z
      omega
theorem opB_lo : ∀ i_z, i_z < 23 → (opB i_z).length ≤ 7 ∧ 1 ≤ (opB i_z).length ∧ ∀ k_z, k_z < (opB i_z).length → 97 ≤ (opB i_z).getD k_z 0 ∧ (opB i_z).getD k_z 0 ≤ 122 := by decide +kernel
theorem wEq_iff {t : Int → Int} {x_z : Int} {n_z i_z : Nat} (hi_z : i_z < 23) (ht : ∀ j_z : Nat, j_z < n_z → 1 ≤ t (x_z + j_z) ∧ t (x_z + j_z) ≤ 255) : wEq t x_z (n_z : Int) i_z ↔ wdL t x_z n_z = wC i_z := by
  have b_z := (opB_lo i_z hi_z).2.2
  have q_z := wdL_inj t x_z (opB i_z) n_z (opB i_z).length ht (fun k_z hk => by have := b_z k_z hk; omega)
  unfold wC wEq
  rw [q_z]
  exact ⟨fun w_z => ⟨by omega, w_z.2⟩, fun w_z => ⟨by omega, w_z.2⟩⟩
theorem fdV_eq {t : Int → Int} {x_z : Int} {n_z : Nat} (ht : ∀ j_z : Nat, j_z < n_z → 1 ≤ t (x_z + j_z) ∧ t (x_z + j_z) ≤ 255) : ∀ (d_z i_z : Nat), i_z + d_z ≤ 23 → fdV (wdL t x_z n_z) i_z d_z = fdO t x_z (n_z : Int) i_z d_z
  | 0, _, _ => rfl
  | d_z + 1, i_z, h_z => by
    have ih_z := fdV_eq ht d_z (i_z + 1) (by omega)
    have q_z := wEq_iff (i_z := i_z) (by omega) ht
    unfold fdV fdO
    by_cases c_z : wEq t x_z (n_z : Int) i_z
    · rw [if_pos (q_z.mp c_z), if_pos c_z]
    · rw [if_neg (fun w_z => c_z (q_z.mpr w_z)), if_neg c_z, ih_z]
theorem fdO_long {t : Int → Int} {x_z n_z : Int} (hn : 7 < n_z) : ∀ (d_z i_z : Nat), i_z + d_z ≤ 23 → fdO t x_z n_z i_z d_z = -1
  | 0, _, _ => rfl
  | d_z + 1, i_z, h_z => by
    have ih_z := fdO_long (t := t) (x_z := x_z) hn d_z (i_z + 1) (by omega)
    have b_z := (opB_lo i_z (by omega)).1
    unfold fdO
    rw [if_neg (fun w_z => by have := w_z.1; omega), ih_z]
/-- the operator of a word (0: none) -/
def orf (G : Env0) (v_z : Int) : Nat := if v_z < 0 then 0 else G.2 (3 + v_z.toNat)
theorem ro_wd {G : Env0} {M : Mem} (h_z : OpF G M) (w_z : WdF G M) : RoOk G M (fun i_z => gR M (G.2 (3 + i_z)) 1) (fun i_z => gR M (gR M (G.2 (3 + i_z)) 1) 0) := by
  obtain ⟨h1, h2⟩ := h_z
  obtain ⟨w1_z, w2_z⟩ := w_z
  refine ⟨w1_z, h1, fun i_z hi_z => ⟨(h2 i_z hi_z).2.1, rfl, (h2 i_z hi_z).2.2⟩, fun i_z hi_z => ?_, fun i_z hi_z => ?_⟩
  · obtain ⟨a_z, d_z, q1_z, q2_z, q3_z, q4_z, q5_z, q6_z, q7_z, q8_z, q9_z⟩ := w2_z i_z hi_z
    dsimp only
    rw [q3_z]
    exact ⟨q4_z, q5_z, rfl⟩
  · obtain ⟨a_z, d_z, q1_z, q2_z, q3_z, q4_z, q5_z, q6_z, q7_z, q8_z, q9_z⟩ := w2_z i_z hi_z
    dsimp only
    rw [q3_z, q6_z]
    exact ⟨q7_z, q8_z, q9_z⟩
section EG
variable {G : Env0} {Q : Option AV → Mem → Prop} {M T : Mem} {r m : Nat} {t : Int → Int} {L : Int} {wd bs : Nat → Nat}
theorem X_isWord {x_z e_z : Int} {i_z : Nat} (ho : RoOk G M wd bs) (hi_z : i_z < 23) (h_z : TxC M r t L) (x0_z : 0 ≤ x_z) (xe : x_z ≤ e_z) (e1_z : e_z ≤ L) (hQ : Q (some (a_i (zB (wEq t x_z (e_z - x_z) i_z)))) M) : Call G J_Rd_isWord [a_r r, a_r (wd i_z), a_i x_z, a_i e_z] M Q := by
  have kw := (ho.2.2.2.1 i_z hi_z).1
  have b_z := opB_lo i_z hi_z
  have L1 := h_z.2.2.2.2.2.2.1
  have loop_z : ∀ (d_z k_z : Nat), k_z + d_z = (opB i_z).length → e_z - x_z = ((opB i_z).length : Int) → (∀ j_z : Nat, j_z < k_z → t (x_z + j_z) = (((opB i_z).getD j_z 0 : Nat) : Int)) → At G 33 15 [a_r r, a_r (wd i_z), a_i x_z, a_i e_z, a_i (k_z : Int)] [] M Q := by
    intro d_z
    induction d_z with
    | zero =>
      intro k_z hk hl hj
      rw [B_33_15]
      refine ⟨kw, X_length hi_z ho ?_⟩
      simp only [Option.toList_some, Option.toList_none, List.cons_append, List.nil_append, List.append_nil, B_33_21]
      refine ⟨fun _ => ?_, fun w_z => absurd (by omega) w_z⟩
      rw [B_33_49]
      rw [zB_t ⟨hl, fun j_z hj2 => hj j_z (by omega)⟩] at hQ
      exact ⟨Or.inr rfl, hQ⟩
    | succ d_z ih_z =>
      intro k_z hk hl hj
      rw [B_33_15]
      refine ⟨kw, X_length hi_z ho ?_⟩
      simp only [Option.toList_some, Option.toList_none, List.cons_append, List.nil_append, List.append_nil, B_33_21]
      refine ⟨fun w_z => absurd w_z (by omega), fun _ => ⟨kw, X_charAt hi_z (by omega) ho ?_⟩⟩
      simp only [Option.toList_some, Option.toList_none, List.cons_append, List.nil_append, List.append_nil, B_33_30]
      refine ⟨⟨by omega, by omega⟩, h_z.1, ?_⟩
      rw [X_sgC h_z, sg_in ⟨by omega, by omega⟩]
      simp only [Option.toList_some, Option.toList_none, List.cons_append, List.nil_append, List.append_nil, B_33_38]
      refine ⟨fun w_z => ?_, fun w_z => ⟨Or.inl rfl, ?_⟩⟩
      · rw [B_33_43]
        refine ⟨⟨by omega, by omega⟩, ?_⟩
        have go_z := ih_z (k_z + 1) (by omega) hl (fun j_z hj2 => by
          by_cases c_z : j_z = k_z
          · rw [c_z]
            exact w_z.symm
          · exact hj j_z (by omega))
        rw [show ((k_z + 1 : Nat) : Int) = (k_z : Int) + 1 from by omega] at go_z
        exact go_z
      · rw [zB_f (fun q_z => w_z (q_z.2 k_z (by omega)).symm)] at hQ
        exact hQ
  rw [E_Rd_isWord, B_33_0]
  refine ⟨kw, X_length hi_z ho ?_⟩
  simp only [Option.toList_some, Option.toList_none, List.cons_append, List.nil_append, List.append_nil, B_33_4]
  refine ⟨⟨by omega, by omega⟩, fun w_z => ?_, fun w_z => ⟨Or.inl rfl, ?_⟩⟩
  · rw [B_33_12]
    exact loop_z (opB i_z).length 0 (by omega) (by omega) (fun j_z hj => absurd hj (by omega))
  · rw [zB_f (fun q_z => w_z q_z.1.symm)] at hQ
    exact hQ
theorem X_findOp {x_z e_z : Int} (ho : RoOk G M wd bs) (h_z : TxC M r t L) (x0_z : 0 ≤ x_z) (xe : x_z ≤ e_z) (e1_z : e_z ≤ L) (hQ : Q (some (a_r (orf G (fdO t x_z (e_z - x_z) 0 23)))) M) : Call G J_Rd_findOperator [a_r r, a_i x_z, a_i e_z] M Q := by
  obtain ⟨k0_z, n0_z, r0⟩ := ho.1
  have loop_z : ∀ (d_z i_z : Nat), i_z + d_z = 23 → Q (some (a_r (orf G (fdO t x_z (e_z - x_z) i_z d_z)))) M → At G 32 2 [a_r r, a_i x_z, a_i e_z, a_i (i_z : Int)] [] M Q := by
    intro d_z
    induction d_z with
    | zero =>
      intro i_z hi_z hq
      rw [B_32_2, k0_z, n0_z]
      refine ⟨by decide, fun _ => ?_, fun w_z => absurd (by omega) w_z⟩
      rw [B_32_39]
      exact hq
    | succ d_z ih_z =>
      intro i_z hi_z hq
      have ho3 := ho.2.2.1 i_z (by omega)
      have e0_z : fdO t x_z (e_z - x_z) i_z (d_z + 1) = if wEq t x_z (e_z - x_z) i_z then (i_z : Int) else fdO t x_z (e_z - x_z) (i_z + 1) d_z := rfl
      rw [e0_z] at hq
      rw [B_32_2, k0_z, n0_z, r0 i_z (by omega), ho3.1, ho3.2.1]
      refine ⟨by decide, fun w_z => absurd w_z (by omega), fun _ => ⟨by decide, by omega, by omega, rfl, h_z.1, X_isWord ho (by omega) h_z x0_z xe e1_z ?_⟩⟩
      simp only [Option.toList_some, Option.toList_none, List.cons_append, List.nil_append, List.append_nil, B_32_24]
      by_cases c_z : wEq t x_z (e_z - x_z) i_z
      · rw [if_pos c_z] at hq
        rw [zB_t c_z, k0_z, n0_z, r0 i_z (by omega)]
        refine ⟨fun w_z => absurd w_z (by decide), fun _ => ⟨by decide, by omega, by omega, ?_⟩⟩
        unfold orf at hq
        rw [if_neg (by omega)] at hq
        exact hq
      · rw [if_neg c_z] at hq
        rw [zB_f c_z]
        refine ⟨fun _ => ?_, fun w_z => absurd rfl w_z⟩
        rw [B_32_33]
        refine ⟨⟨by omega, by omega⟩, ?_⟩
        have go_z := ih_z (i_z + 1) (by omega) hq
        rw [show ((i_z + 1 : Nat) : Int) = (i_z : Int) + 1 from by omega] at go_z
        exact go_z
  rw [E_Rd_findOperator, B_32_0]
  exact loop_z 23 0 rfl hQ
/-- a comparison of longs -/
theorem cmp_n {v_z c_z : Int} {A_z B_z : Prop} (h_z : ¬ v_z = c_z) (ha_z : A_z) : (¬ (zCmp v_z c_z) = 0 → A_z) ∧ (¬ (¬ (zCmp v_z c_z) = 0) → B_z) := ⟨fun _ => ha_z, fun w_z => absurd (zc_eq.mp (Decidable.not_not.mp w_z)) h_z⟩
theorem cmp_e {v_z c_z : Int} {A_z B_z : Prop} (h_z : v_z = c_z) (hb_z : B_z) : (¬ (zCmp v_z c_z) = 0 → A_z) ∧ (¬ (¬ (zCmp v_z c_z) = 0) → B_z) := ⟨fun w_z => absurd (zc_eq.mpr h_z) w_z, fun _ => hb_z⟩
theorem X_op0 (hQ : Q (some (a_i 0)) T) : Call G J_M_operatorOf [a_l 1935767141] T Q := by
  rw [E_M_operatorOf]
  rw [B_179_0]
  refine cmp_e rfl ?_
  rw [B_179_99]
  refine cmp_n (by decide) ?_
  rw [B_179_113]
  refine cmp_n (by decide) ?_
  rw [B_179_126]
  refine cmp_n (by decide) ?_
  rw [B_179_139]
  refine cmp_n (by decide) ?_
  rw [B_179_152]
  refine cmp_n (by decide) ?_
  rw [B_179_165]
  refine cmp_n (by decide) ?_
  rw [B_179_178]
  refine cmp_n (by decide) ?_
  rw [B_179_191]
  refine cmp_n (by decide) ?_
  rw [B_179_204]
  rw [B_179_205]
  refine cmp_n (by decide) ?_
  rw [B_179_219]
  refine cmp_n (by decide) ?_
  rw [B_179_232]
  refine cmp_n (by decide) ?_
  rw [B_179_245]
  refine cmp_n (by decide) ?_
  rw [B_179_258]
  refine cmp_n (by decide) ?_
  rw [B_179_271]
  refine cmp_n (by decide) ?_
  rw [B_179_284]
  refine cmp_n (by decide) ?_
  rw [B_179_297]
  rw [B_179_298]
  refine ⟨fun w_z => absurd w_z (by decide), fun _ => ?_⟩
  rw [B_179_318]
  exact ⟨trivial, hQ⟩
theorem X_op1 (hQ : Q (some (a_i 1)) T) : Call G J_M_operatorOf [a_l 32199693894120037] T Q := by
  rw [E_M_operatorOf]
  rw [B_179_0]
  refine cmp_n (by decide) ?_
  rw [B_179_12]
  refine cmp_e rfl ?_
  rw [B_179_99]
  refine cmp_n (by decide) ?_
  rw [B_179_113]
  refine cmp_n (by decide) ?_
  rw [B_179_126]
  refine cmp_n (by decide) ?_
  rw [B_179_139]
  refine cmp_n (by decide) ?_
  rw [B_179_152]
  refine cmp_n (by decide) ?_
  rw [B_179_165]
  refine cmp_n (by decide) ?_
  rw [B_179_178]
  refine cmp_n (by decide) ?_
  rw [B_179_191]
  refine cmp_n (by decide) ?_
  rw [B_179_204]
  rw [B_179_205]
  refine cmp_n (by decide) ?_
  rw [B_179_219]
  refine cmp_n (by decide) ?_
  rw [B_179_232]
  refine cmp_n (by decide) ?_
  rw [B_179_245]
  refine cmp_n (by decide) ?_
  rw [B_179_258]
  refine cmp_n (by decide) ?_
  rw [B_179_271]
  refine cmp_n (by decide) ?_
  rw [B_179_284]
  refine cmp_n (by decide) ?_
  rw [B_179_297]
  rw [B_179_298]
  refine ⟨fun w_z => absurd w_z (by decide), fun _ => ?_⟩
  rw [B_179_318]
  exact ⟨trivial, hQ⟩
theorem X_op2 (hQ : Q (some (a_i 2)) T) : Call G J_M_operatorOf [a_l 109330244526452] T Q := by
  rw [E_M_operatorOf]
  rw [B_179_0]
  refine cmp_n (by decide) ?_
  rw [B_179_12]
  refine cmp_n (by decide) ?_
  rw [B_179_24]
  refine cmp_e rfl ?_
  rw [B_179_99]
  refine cmp_n (by decide) ?_
  rw [B_179_113]
  refine cmp_n (by decide) ?_
  rw [B_179_126]
  refine cmp_n (by decide) ?_
  rw [B_179_139]
  refine cmp_n (by decide) ?_
  rw [B_179_152]
  refine cmp_n (by decide) ?_
  rw [B_179_165]
  refine cmp_n (by decide) ?_
  rw [B_179_178]
  refine cmp_n (by decide) ?_
  rw [B_179_191]
  refine cmp_n (by decide) ?_
  rw [B_179_204]
  rw [B_179_205]
  refine cmp_n (by decide) ?_
  rw [B_179_219]
  refine cmp_n (by decide) ?_
  rw [B_179_232]
  refine cmp_n (by decide) ?_
  rw [B_179_245]
  refine cmp_n (by decide) ?_
  rw [B_179_258]
  refine cmp_n (by decide) ?_
  rw [B_179_271]
  refine cmp_n (by decide) ?_
  rw [B_179_284]
  refine cmp_n (by decide) ?_
  rw [B_179_297]
  rw [B_179_298]
  refine ⟨fun w_z => absurd w_z (by decide), fun _ => ?_⟩
  rw [B_179_318]
  exact ⟨trivial, hQ⟩
theorem X_op3 (hQ : Q (some (a_i 3)) T) : Call G J_M_operatorOf [a_l 1836021349] T Q := by
  rw [E_M_operatorOf]
  rw [B_179_0]
  refine cmp_n (by decide) ?_
  rw [B_179_12]
  refine cmp_n (by decide) ?_
  rw [B_179_24]
  refine cmp_n (by decide) ?_
  rw [B_179_36]
  refine cmp_e rfl ?_
  rw [B_179_99]
  refine cmp_n (by decide) ?_
  rw [B_179_113]
  refine cmp_n (by decide) ?_
  rw [B_179_126]
  refine cmp_n (by decide) ?_
  rw [B_179_139]
  refine cmp_n (by decide) ?_
  rw [B_179_152]
  refine cmp_n (by decide) ?_
  rw [B_179_165]
  refine cmp_n (by decide) ?_
  rw [B_179_178]
  refine cmp_n (by decide) ?_
  rw [B_179_191]
  refine cmp_n (by decide) ?_
  rw [B_179_204]
  rw [B_179_205]
  refine cmp_n (by decide) ?_
  rw [B_179_219]
  refine cmp_n (by decide) ?_
  rw [B_179_232]
  refine cmp_n (by decide) ?_
  rw [B_179_245]
  refine cmp_n (by decide) ?_
  rw [B_179_258]
  refine cmp_n (by decide) ?_
  rw [B_179_271]
  refine cmp_n (by decide) ?_
  rw [B_179_284]
  refine cmp_n (by decide) ?_
  rw [B_179_297]
  rw [B_179_298]
  refine ⟨fun w_z => absurd w_z (by decide), fun _ => ?_⟩
  rw [B_179_318]
  exact ⟨trivial, hQ⟩
theorem X_op4 (hQ : Q (some (a_i 4)) T) : Call G J_M_operatorOf [a_l 1818848869] T Q := by
  rw [E_M_operatorOf]
  rw [B_179_0]
  refine cmp_n (by decide) ?_
  rw [B_179_12]
  refine cmp_n (by decide) ?_
  rw [B_179_24]
  refine cmp_n (by decide) ?_
  rw [B_179_36]
  refine cmp_n (by decide) ?_
  rw [B_179_48]
  refine cmp_e rfl ?_
  rw [B_179_99]
  refine cmp_n (by decide) ?_
  rw [B_179_113]
  refine cmp_n (by decide) ?_
  rw [B_179_126]
  refine cmp_n (by decide) ?_
  rw [B_179_139]
  refine cmp_n (by decide) ?_
  rw [B_179_152]
  refine cmp_n (by decide) ?_
  rw [B_179_165]
  refine cmp_n (by decide) ?_
  rw [B_179_178]
  refine cmp_n (by decide) ?_
  rw [B_179_191]
  refine cmp_n (by decide) ?_
  rw [B_179_204]
  rw [B_179_205]
  refine cmp_n (by decide) ?_
  rw [B_179_219]
  refine cmp_n (by decide) ?_
  rw [B_179_232]
  refine cmp_n (by decide) ?_
  rw [B_179_245]
  refine cmp_n (by decide) ?_
  rw [B_179_258]
  refine cmp_n (by decide) ?_
  rw [B_179_271]
  refine cmp_n (by decide) ?_
  rw [B_179_284]
  refine cmp_n (by decide) ?_
  rw [B_179_297]
  rw [B_179_298]
  refine ⟨fun w_z => absurd w_z (by decide), fun _ => ?_⟩
  rw [B_179_318]
  exact ⟨trivial, hQ⟩
theorem X_op5 (hQ : Q (some (a_i 5)) T) : Call G J_M_operatorOf [a_l 427021005669] T Q := by
  rw [E_M_operatorOf]
  rw [B_179_0]
  refine cmp_n (by decide) ?_
  rw [B_179_12]
  refine cmp_n (by decide) ?_
  rw [B_179_24]
  refine cmp_n (by decide) ?_
  rw [B_179_36]
  refine cmp_n (by decide) ?_
  rw [B_179_48]
  refine cmp_n (by decide) ?_
  rw [B_179_60]
  refine cmp_e rfl ?_
  rw [B_179_99]
  refine cmp_n (by decide) ?_
  rw [B_179_113]
  refine cmp_n (by decide) ?_
  rw [B_179_126]
  refine cmp_n (by decide) ?_
  rw [B_179_139]
  refine cmp_n (by decide) ?_
  rw [B_179_152]
  refine cmp_n (by decide) ?_
  rw [B_179_165]
  refine cmp_n (by decide) ?_
  rw [B_179_178]
  refine cmp_n (by decide) ?_
  rw [B_179_191]
  refine cmp_n (by decide) ?_
  rw [B_179_204]
  rw [B_179_205]
  refine cmp_n (by decide) ?_
  rw [B_179_219]
  refine cmp_n (by decide) ?_
  rw [B_179_232]
  refine cmp_n (by decide) ?_
  rw [B_179_245]
  refine cmp_n (by decide) ?_
  rw [B_179_258]
  refine cmp_n (by decide) ?_
  rw [B_179_271]
  refine cmp_n (by decide) ?_
  rw [B_179_284]
  refine cmp_n (by decide) ?_
  rw [B_179_297]
  rw [B_179_298]
  refine ⟨fun w_z => absurd w_z (by decide), fun _ => ?_⟩
  rw [B_179_318]
  exact ⟨trivial, hQ⟩
theorem X_op6 (hQ : Q (some (a_i 6)) T) : Call G J_M_operatorOf [a_l 1919247220] T Q := by
  rw [E_M_operatorOf]
  rw [B_179_0]
  refine cmp_n (by decide) ?_
  rw [B_179_12]
  refine cmp_n (by decide) ?_
  rw [B_179_24]
  refine cmp_n (by decide) ?_
  rw [B_179_36]
  refine cmp_n (by decide) ?_
  rw [B_179_48]
  refine cmp_n (by decide) ?_
  rw [B_179_60]
  refine cmp_n (by decide) ?_
  rw [B_179_72]
  refine cmp_e rfl ?_
  rw [B_179_99]
  refine cmp_n (by decide) ?_
  rw [B_179_113]
  refine cmp_n (by decide) ?_
  rw [B_179_126]
  refine cmp_n (by decide) ?_
  rw [B_179_139]
  refine cmp_n (by decide) ?_
  rw [B_179_152]
  refine cmp_n (by decide) ?_
  rw [B_179_165]
  refine cmp_n (by decide) ?_
  rw [B_179_178]
  refine cmp_n (by decide) ?_
  rw [B_179_191]
  refine cmp_n (by decide) ?_
  rw [B_179_204]
  rw [B_179_205]
  refine cmp_n (by decide) ?_
  rw [B_179_219]
  refine cmp_n (by decide) ?_
  rw [B_179_232]
  refine cmp_n (by decide) ?_
  rw [B_179_245]
  refine cmp_n (by decide) ?_
  rw [B_179_258]
  refine cmp_n (by decide) ?_
  rw [B_179_271]
  refine cmp_n (by decide) ?_
  rw [B_179_284]
  refine cmp_n (by decide) ?_
  rw [B_179_297]
  rw [B_179_298]
  refine ⟨fun w_z => absurd w_z (by decide), fun _ => ?_⟩
  rw [B_179_318]
  exact ⟨trivial, hQ⟩
theorem X_op7 (hQ : Q (some (a_i 7)) T) : Call G J_M_operatorOf [a_l 1668049264] T Q := by
  rw [E_M_operatorOf]
  rw [B_179_0]
  refine cmp_n (by decide) ?_
  rw [B_179_12]
  refine cmp_n (by decide) ?_
  rw [B_179_24]
  refine cmp_n (by decide) ?_
  rw [B_179_36]
  refine cmp_n (by decide) ?_
  rw [B_179_48]
  refine cmp_n (by decide) ?_
  rw [B_179_60]
  refine cmp_n (by decide) ?_
  rw [B_179_72]
  refine cmp_n (by decide) ?_
  rw [B_179_85]
  refine cmp_e rfl ?_
  rw [B_179_99]
  refine cmp_n (by decide) ?_
  rw [B_179_113]
  refine cmp_n (by decide) ?_
  rw [B_179_126]
  refine cmp_n (by decide) ?_
  rw [B_179_139]
  refine cmp_n (by decide) ?_
  rw [B_179_152]
  refine cmp_n (by decide) ?_
  rw [B_179_165]
  refine cmp_n (by decide) ?_
  rw [B_179_178]
  refine cmp_n (by decide) ?_
  rw [B_179_191]
  refine cmp_n (by decide) ?_
  rw [B_179_204]
  rw [B_179_205]
  refine cmp_n (by decide) ?_
  rw [B_179_219]
  refine cmp_n (by decide) ?_
  rw [B_179_232]
  refine cmp_n (by decide) ?_
  rw [B_179_245]
  refine cmp_n (by decide) ?_
  rw [B_179_258]
  refine cmp_n (by decide) ?_
  rw [B_179_271]
  refine cmp_n (by decide) ?_
  rw [B_179_284]
  refine cmp_n (by decide) ?_
  rw [B_179_297]
  rw [B_179_298]
  refine ⟨fun w_z => absurd w_z (by decide), fun _ => ?_⟩
  rw [B_179_318]
  exact ⟨trivial, hQ⟩
theorem X_op8 (hQ : Q (some (a_i 8)) T) : Call G J_M_operatorOf [a_l 517064124784] T Q := by
  rw [E_M_operatorOf]
  rw [B_179_0]
  refine cmp_n (by decide) ?_
  rw [B_179_12]
  refine cmp_n (by decide) ?_
  rw [B_179_24]
  refine cmp_n (by decide) ?_
  rw [B_179_36]
  refine cmp_n (by decide) ?_
  rw [B_179_48]
  refine cmp_n (by decide) ?_
  rw [B_179_60]
  refine cmp_n (by decide) ?_
  rw [B_179_72]
  refine cmp_n (by decide) ?_
  rw [B_179_85]
  refine cmp_n (by decide) ?_
  rw [B_179_98]
  rw [B_179_99]
  refine cmp_e rfl ?_
  rw [B_179_205]
  refine cmp_n (by decide) ?_
  rw [B_179_219]
  refine cmp_n (by decide) ?_
  rw [B_179_232]
  refine cmp_n (by decide) ?_
  rw [B_179_245]
  refine cmp_n (by decide) ?_
  rw [B_179_258]
  refine cmp_n (by decide) ?_
  rw [B_179_271]
  refine cmp_n (by decide) ?_
  rw [B_179_284]
  refine cmp_n (by decide) ?_
  rw [B_179_297]
  rw [B_179_298]
  refine ⟨fun _ => ?_, fun w_z => absurd (by decide) w_z⟩
  rw [B_179_308]
  refine ⟨fun w_z => absurd w_z (by decide), fun _ => ?_⟩
  rw [B_179_318]
  exact ⟨trivial, hQ⟩
theorem X_op9 (hQ : Q (some (a_i 9)) T) : Call G J_M_operatorOf [a_l 1718185068] T Q := by
  rw [E_M_operatorOf]
  rw [B_179_0]
  refine cmp_n (by decide) ?_
  rw [B_179_12]
  refine cmp_n (by decide) ?_
  rw [B_179_24]
  refine cmp_n (by decide) ?_
  rw [B_179_36]
  refine cmp_n (by decide) ?_
  rw [B_179_48]
  refine cmp_n (by decide) ?_
  rw [B_179_60]
  refine cmp_n (by decide) ?_
  rw [B_179_72]
  refine cmp_n (by decide) ?_
  rw [B_179_85]
  refine cmp_n (by decide) ?_
  rw [B_179_98]
  rw [B_179_99]
  refine cmp_n (by decide) ?_
  rw [B_179_113]
  refine cmp_e rfl ?_
  rw [B_179_205]
  refine cmp_n (by decide) ?_
  rw [B_179_219]
  refine cmp_n (by decide) ?_
  rw [B_179_232]
  refine cmp_n (by decide) ?_
  rw [B_179_245]
  refine cmp_n (by decide) ?_
  rw [B_179_258]
  refine cmp_n (by decide) ?_
  rw [B_179_271]
  refine cmp_n (by decide) ?_
  rw [B_179_284]
  refine cmp_n (by decide) ?_
  rw [B_179_297]
  rw [B_179_298]
  refine ⟨fun _ => ?_, fun w_z => absurd (by decide) w_z⟩
  rw [B_179_308]
  refine ⟨fun w_z => absurd w_z (by decide), fun _ => ?_⟩
  rw [B_179_318]
  exact ⟨trivial, hQ⟩
theorem X_op10 (hQ : Q (some (a_i 10)) T) : Call G J_M_operatorOf [a_l 517114260588] T Q := by
  rw [E_M_operatorOf]
  rw [B_179_0]
  refine cmp_n (by decide) ?_
  rw [B_179_12]
  refine cmp_n (by decide) ?_
  rw [B_179_24]
  refine cmp_n (by decide) ?_
  rw [B_179_36]
  refine cmp_n (by decide) ?_
  rw [B_179_48]
  refine cmp_n (by decide) ?_
  rw [B_179_60]
  refine cmp_n (by decide) ?_
  rw [B_179_72]
  refine cmp_n (by decide) ?_
  rw [B_179_85]
  refine cmp_n (by decide) ?_
  rw [B_179_98]
  rw [B_179_99]
  refine cmp_n (by decide) ?_
  rw [B_179_113]
  refine cmp_n (by decide) ?_
  rw [B_179_126]
  refine cmp_e rfl ?_
  rw [B_179_205]
  refine cmp_n (by decide) ?_
  rw [B_179_219]
  refine cmp_n (by decide) ?_
  rw [B_179_232]
  refine cmp_n (by decide) ?_
  rw [B_179_245]
  refine cmp_n (by decide) ?_
  rw [B_179_258]
  refine cmp_n (by decide) ?_
  rw [B_179_271]
  refine cmp_n (by decide) ?_
  rw [B_179_284]
  refine cmp_n (by decide) ?_
  rw [B_179_297]
  rw [B_179_298]
  refine ⟨fun _ => ?_, fun w_z => absurd (by decide) w_z⟩
  rw [B_179_308]
  refine ⟨fun w_z => absurd w_z (by decide), fun _ => ?_⟩
  rw [B_179_318]
  exact ⟨trivial, hQ⟩
theorem X_op11 (hQ : Q (some (a_i 11)) T) : Call G J_M_operatorOf [a_l 1685221232] T Q := by
  rw [E_M_operatorOf]
  rw [B_179_0]
  refine cmp_n (by decide) ?_
  rw [B_179_12]
  refine cmp_n (by decide) ?_
  rw [B_179_24]
  refine cmp_n (by decide) ?_
  rw [B_179_36]
  refine cmp_n (by decide) ?_
  rw [B_179_48]
  refine cmp_n (by decide) ?_
  rw [B_179_60]
  refine cmp_n (by decide) ?_
  rw [B_179_72]
  refine cmp_n (by decide) ?_
  rw [B_179_85]
  refine cmp_n (by decide) ?_
  rw [B_179_98]
  rw [B_179_99]
  refine cmp_n (by decide) ?_
  rw [B_179_113]
  refine cmp_n (by decide) ?_
  rw [B_179_126]
  refine cmp_n (by decide) ?_
  rw [B_179_139]
  refine cmp_e rfl ?_
  rw [B_179_205]
  refine cmp_n (by decide) ?_
  rw [B_179_219]
  refine cmp_n (by decide) ?_
  rw [B_179_232]
  refine cmp_n (by decide) ?_
  rw [B_179_245]
  refine cmp_n (by decide) ?_
  rw [B_179_258]
  refine cmp_n (by decide) ?_
  rw [B_179_271]
  refine cmp_n (by decide) ?_
  rw [B_179_284]
  refine cmp_n (by decide) ?_
  rw [B_179_297]
  rw [B_179_298]
  refine ⟨fun _ => ?_, fun w_z => absurd (by decide) w_z⟩
  rw [B_179_308]
  refine ⟨fun w_z => absurd w_z (by decide), fun _ => ?_⟩
  rw [B_179_318]
  exact ⟨trivial, hQ⟩
theorem X_op12 (hQ : Q (some (a_i 12)) T) : Call G J_M_operatorOf [a_l 427071139698] T Q := by
  rw [E_M_operatorOf]
  rw [B_179_0]
  refine cmp_n (by decide) ?_
  rw [B_179_12]
  refine cmp_n (by decide) ?_
  rw [B_179_24]
  refine cmp_n (by decide) ?_
  rw [B_179_36]
  refine cmp_n (by decide) ?_
  rw [B_179_48]
  refine cmp_n (by decide) ?_
  rw [B_179_60]
  refine cmp_n (by decide) ?_
  rw [B_179_72]
  refine cmp_n (by decide) ?_
  rw [B_179_85]
  refine cmp_n (by decide) ?_
  rw [B_179_98]
  rw [B_179_99]
  refine cmp_n (by decide) ?_
  rw [B_179_113]
  refine cmp_n (by decide) ?_
  rw [B_179_126]
  refine cmp_n (by decide) ?_
  rw [B_179_139]
  refine cmp_n (by decide) ?_
  rw [B_179_152]
  refine cmp_e rfl ?_
  rw [B_179_205]
  refine cmp_n (by decide) ?_
  rw [B_179_219]
  refine cmp_n (by decide) ?_
  rw [B_179_232]
  refine cmp_n (by decide) ?_
  rw [B_179_245]
  refine cmp_n (by decide) ?_
  rw [B_179_258]
  refine cmp_n (by decide) ?_
  rw [B_179_271]
  refine cmp_n (by decide) ?_
  rw [B_179_284]
  refine cmp_n (by decide) ?_
  rw [B_179_297]
  rw [B_179_298]
  refine ⟨fun _ => ?_, fun w_z => absurd (by decide) w_z⟩
  rw [B_179_308]
  refine ⟨fun w_z => absurd w_z (by decide), fun _ => ?_⟩
  rw [B_179_318]
  exact ⟨trivial, hQ⟩
theorem X_op13 (hQ : Q (some (a_i 13)) T) : Call G J_M_operatorOf [a_l 1685217655] T Q := by
  rw [E_M_operatorOf]
  rw [B_179_0]
  refine cmp_n (by decide) ?_
  rw [B_179_12]
  refine cmp_n (by decide) ?_
  rw [B_179_24]
  refine cmp_n (by decide) ?_
  rw [B_179_36]
  refine cmp_n (by decide) ?_
  rw [B_179_48]
  refine cmp_n (by decide) ?_
  rw [B_179_60]
  refine cmp_n (by decide) ?_
  rw [B_179_72]
  refine cmp_n (by decide) ?_
  rw [B_179_85]
  refine cmp_n (by decide) ?_
  rw [B_179_98]
  rw [B_179_99]
  refine cmp_n (by decide) ?_
  rw [B_179_113]
  refine cmp_n (by decide) ?_
  rw [B_179_126]
  refine cmp_n (by decide) ?_
  rw [B_179_139]
  refine cmp_n (by decide) ?_
  rw [B_179_152]
  refine cmp_n (by decide) ?_
  rw [B_179_165]
  refine cmp_e rfl ?_
  rw [B_179_205]
  refine cmp_n (by decide) ?_
  rw [B_179_219]
  refine cmp_n (by decide) ?_
  rw [B_179_232]
  refine cmp_n (by decide) ?_
  rw [B_179_245]
  refine cmp_n (by decide) ?_
  rw [B_179_258]
  refine cmp_n (by decide) ?_
  rw [B_179_271]
  refine cmp_n (by decide) ?_
  rw [B_179_284]
  refine cmp_n (by decide) ?_
  rw [B_179_297]
  rw [B_179_298]
  refine ⟨fun _ => ?_, fun w_z => absurd (by decide) w_z⟩
  rw [B_179_308]
  refine ⟨fun w_z => absurd w_z (by decide), fun _ => ?_⟩
  rw [B_179_318]
  exact ⟨trivial, hQ⟩
theorem X_op14 (hQ : Q (some (a_i 14)) T) : Call G J_M_operatorOf [a_l 125780002955636] T Q := by
  rw [E_M_operatorOf]
  rw [B_179_0]
  refine cmp_n (by decide) ?_
  rw [B_179_12]
  refine cmp_n (by decide) ?_
  rw [B_179_24]
  refine cmp_n (by decide) ?_
  rw [B_179_36]
  refine cmp_n (by decide) ?_
  rw [B_179_48]
  refine cmp_n (by decide) ?_
  rw [B_179_60]
  refine cmp_n (by decide) ?_
  rw [B_179_72]
  refine cmp_n (by decide) ?_
  rw [B_179_85]
  refine cmp_n (by decide) ?_
  rw [B_179_98]
  rw [B_179_99]
  refine cmp_n (by decide) ?_
  rw [B_179_113]
  refine cmp_n (by decide) ?_
  rw [B_179_126]
  refine cmp_n (by decide) ?_
  rw [B_179_139]
  refine cmp_n (by decide) ?_
  rw [B_179_152]
  refine cmp_n (by decide) ?_
  rw [B_179_165]
  refine cmp_n (by decide) ?_
  rw [B_179_178]
  refine cmp_e rfl ?_
  rw [B_179_205]
  refine cmp_n (by decide) ?_
  rw [B_179_219]
  refine cmp_n (by decide) ?_
  rw [B_179_232]
  refine cmp_n (by decide) ?_
  rw [B_179_245]
  refine cmp_n (by decide) ?_
  rw [B_179_258]
  refine cmp_n (by decide) ?_
  rw [B_179_271]
  refine cmp_n (by decide) ?_
  rw [B_179_284]
  refine cmp_n (by decide) ?_
  rw [B_179_297]
  rw [B_179_298]
  refine ⟨fun _ => ?_, fun w_z => absurd (by decide) w_z⟩
  rw [B_179_308]
  refine ⟨fun w_z => absurd w_z (by decide), fun _ => ?_⟩
  rw [B_179_318]
  exact ⟨trivial, hQ⟩
theorem X_op15 (hQ : Q (some (a_i 15)) T) : Call G J_M_operatorOf [a_l 1852143732] T Q := by
  rw [E_M_operatorOf]
  rw [B_179_0]
  refine cmp_n (by decide) ?_
  rw [B_179_12]
  refine cmp_n (by decide) ?_
  rw [B_179_24]
  refine cmp_n (by decide) ?_
  rw [B_179_36]
  refine cmp_n (by decide) ?_
  rw [B_179_48]
  refine cmp_n (by decide) ?_
  rw [B_179_60]
  refine cmp_n (by decide) ?_
  rw [B_179_72]
  refine cmp_n (by decide) ?_
  rw [B_179_85]
  refine cmp_n (by decide) ?_
  rw [B_179_98]
  rw [B_179_99]
  refine cmp_n (by decide) ?_
  rw [B_179_113]
  refine cmp_n (by decide) ?_
  rw [B_179_126]
  refine cmp_n (by decide) ?_
  rw [B_179_139]
  refine cmp_n (by decide) ?_
  rw [B_179_152]
  refine cmp_n (by decide) ?_
  rw [B_179_165]
  refine cmp_n (by decide) ?_
  rw [B_179_178]
  refine cmp_n (by decide) ?_
  rw [B_179_191]
  refine cmp_e rfl ?_
  rw [B_179_205]
  refine cmp_n (by decide) ?_
  rw [B_179_219]
  refine cmp_n (by decide) ?_
  rw [B_179_232]
  refine cmp_n (by decide) ?_
  rw [B_179_245]
  refine cmp_n (by decide) ?_
  rw [B_179_258]
  refine cmp_n (by decide) ?_
  rw [B_179_271]
  refine cmp_n (by decide) ?_
  rw [B_179_284]
  refine cmp_n (by decide) ?_
  rw [B_179_297]
  rw [B_179_298]
  refine ⟨fun _ => ?_, fun w_z => absurd (by decide) w_z⟩
  rw [B_179_308]
  refine ⟨fun w_z => absurd w_z (by decide), fun _ => ?_⟩
  rw [B_179_318]
  exact ⟨trivial, hQ⟩
theorem X_op16 (hQ : Q (some (a_i 16)) T) : Call G J_M_operatorOf [a_l 6583664] T Q := by
  rw [E_M_operatorOf]
  rw [B_179_0]
  refine cmp_n (by decide) ?_
  rw [B_179_12]
  refine cmp_n (by decide) ?_
  rw [B_179_24]
  refine cmp_n (by decide) ?_
  rw [B_179_36]
  refine cmp_n (by decide) ?_
  rw [B_179_48]
  refine cmp_n (by decide) ?_
  rw [B_179_60]
  refine cmp_n (by decide) ?_
  rw [B_179_72]
  refine cmp_n (by decide) ?_
  rw [B_179_85]
  refine cmp_n (by decide) ?_
  rw [B_179_98]
  rw [B_179_99]
  refine cmp_n (by decide) ?_
  rw [B_179_113]
  refine cmp_n (by decide) ?_
  rw [B_179_126]
  refine cmp_n (by decide) ?_
  rw [B_179_139]
  refine cmp_n (by decide) ?_
  rw [B_179_152]
  refine cmp_n (by decide) ?_
  rw [B_179_165]
  refine cmp_n (by decide) ?_
  rw [B_179_178]
  refine cmp_n (by decide) ?_
  rw [B_179_191]
  refine cmp_n (by decide) ?_
  rw [B_179_204]
  rw [B_179_205]
  refine cmp_e rfl ?_
  rw [B_179_298]
  refine ⟨fun _ => ?_, fun w_z => absurd (by decide) w_z⟩
  rw [B_179_308]
  refine ⟨fun _ => ?_, fun w_z => absurd (by decide) w_z⟩
  rw [B_179_316]
  rw [B_179_318]
  exact ⟨trivial, hQ⟩
theorem X_op17 (hQ : Q (some (a_i 17)) T) : Call G J_M_operatorOf [a_l 7368560] T Q := by
  rw [E_M_operatorOf]
  rw [B_179_0]
  refine cmp_n (by decide) ?_
  rw [B_179_12]
  refine cmp_n (by decide) ?_
  rw [B_179_24]
  refine cmp_n (by decide) ?_
  rw [B_179_36]
  refine cmp_n (by decide) ?_
  rw [B_179_48]
  refine cmp_n (by decide) ?_
  rw [B_179_60]
  refine cmp_n (by decide) ?_
  rw [B_179_72]
  refine cmp_n (by decide) ?_
  rw [B_179_85]
  refine cmp_n (by decide) ?_
  rw [B_179_98]
  rw [B_179_99]
  refine cmp_n (by decide) ?_
  rw [B_179_113]
  refine cmp_n (by decide) ?_
  rw [B_179_126]
  refine cmp_n (by decide) ?_
  rw [B_179_139]
  refine cmp_n (by decide) ?_
  rw [B_179_152]
  refine cmp_n (by decide) ?_
  rw [B_179_165]
  refine cmp_n (by decide) ?_
  rw [B_179_178]
  refine cmp_n (by decide) ?_
  rw [B_179_191]
  refine cmp_n (by decide) ?_
  rw [B_179_204]
  rw [B_179_205]
  refine cmp_n (by decide) ?_
  rw [B_179_219]
  refine cmp_e rfl ?_
  rw [B_179_298]
  refine ⟨fun _ => ?_, fun w_z => absurd (by decide) w_z⟩
  rw [B_179_308]
  refine ⟨fun _ => ?_, fun w_z => absurd (by decide) w_z⟩
  rw [B_179_316]
  rw [B_179_318]
  exact ⟨trivial, hQ⟩
theorem X_op18 (hQ : Q (some (a_i 18)) T) : Call G J_M_operatorOf [a_l 1702388584] T Q := by
  rw [E_M_operatorOf]
  rw [B_179_0]
  refine cmp_n (by decide) ?_
  rw [B_179_12]
  refine cmp_n (by decide) ?_
  rw [B_179_24]
  refine cmp_n (by decide) ?_
  rw [B_179_36]
  refine cmp_n (by decide) ?_
  rw [B_179_48]
  refine cmp_n (by decide) ?_
  rw [B_179_60]
  refine cmp_n (by decide) ?_
  rw [B_179_72]
  refine cmp_n (by decide) ?_
  rw [B_179_85]
  refine cmp_n (by decide) ?_
  rw [B_179_98]
  rw [B_179_99]
  refine cmp_n (by decide) ?_
  rw [B_179_113]
  refine cmp_n (by decide) ?_
  rw [B_179_126]
  refine cmp_n (by decide) ?_
  rw [B_179_139]
  refine cmp_n (by decide) ?_
  rw [B_179_152]
  refine cmp_n (by decide) ?_
  rw [B_179_165]
  refine cmp_n (by decide) ?_
  rw [B_179_178]
  refine cmp_n (by decide) ?_
  rw [B_179_191]
  refine cmp_n (by decide) ?_
  rw [B_179_204]
  rw [B_179_205]
  refine cmp_n (by decide) ?_
  rw [B_179_219]
  refine cmp_n (by decide) ?_
  rw [B_179_232]
  refine cmp_e rfl ?_
  rw [B_179_298]
  refine ⟨fun _ => ?_, fun w_z => absurd (by decide) w_z⟩
  rw [B_179_308]
  refine ⟨fun _ => ?_, fun w_z => absurd (by decide) w_z⟩
  rw [B_179_316]
  rw [B_179_318]
  exact ⟨trivial, hQ⟩
theorem X_op19 (hQ : Q (some (a_i 19)) T) : Call G J_M_operatorOf [a_l 6382692] T Q := by
  rw [E_M_operatorOf]
  rw [B_179_0]
  refine cmp_n (by decide) ?_
  rw [B_179_12]
  refine cmp_n (by decide) ?_
  rw [B_179_24]
  refine cmp_n (by decide) ?_
  rw [B_179_36]
  refine cmp_n (by decide) ?_
  rw [B_179_48]
  refine cmp_n (by decide) ?_
  rw [B_179_60]
  refine cmp_n (by decide) ?_
  rw [B_179_72]
  refine cmp_n (by decide) ?_
  rw [B_179_85]
  refine cmp_n (by decide) ?_
  rw [B_179_98]
  rw [B_179_99]
  refine cmp_n (by decide) ?_
  rw [B_179_113]
  refine cmp_n (by decide) ?_
  rw [B_179_126]
  refine cmp_n (by decide) ?_
  rw [B_179_139]
  refine cmp_n (by decide) ?_
  rw [B_179_152]
  refine cmp_n (by decide) ?_
  rw [B_179_165]
  refine cmp_n (by decide) ?_
  rw [B_179_178]
  refine cmp_n (by decide) ?_
  rw [B_179_191]
  refine cmp_n (by decide) ?_
  rw [B_179_204]
  rw [B_179_205]
  refine cmp_n (by decide) ?_
  rw [B_179_219]
  refine cmp_n (by decide) ?_
  rw [B_179_232]
  refine cmp_n (by decide) ?_
  rw [B_179_245]
  refine cmp_e rfl ?_
  rw [B_179_298]
  refine ⟨fun _ => ?_, fun w_z => absurd (by decide) w_z⟩
  rw [B_179_308]
  refine ⟨fun _ => ?_, fun w_z => absurd (by decide) w_z⟩
  rw [B_179_316]
  rw [B_179_318]
  exact ⟨trivial, hQ⟩
theorem X_op20 (hQ : Q (some (a_i 20)) T) : Call G J_M_operatorOf [a_l 7566690] T Q := by
  rw [E_M_operatorOf]
  rw [B_179_0]
  refine cmp_n (by decide) ?_
  rw [B_179_12]
  refine cmp_n (by decide) ?_
  rw [B_179_24]
  refine cmp_n (by decide) ?_
  rw [B_179_36]
  refine cmp_n (by decide) ?_
  rw [B_179_48]
  refine cmp_n (by decide) ?_
  rw [B_179_60]
  refine cmp_n (by decide) ?_
  rw [B_179_72]
  refine cmp_n (by decide) ?_
  rw [B_179_85]
  refine cmp_n (by decide) ?_
  rw [B_179_98]
  rw [B_179_99]
  refine cmp_n (by decide) ?_
  rw [B_179_113]
  refine cmp_n (by decide) ?_
  rw [B_179_126]
  refine cmp_n (by decide) ?_
  rw [B_179_139]
  refine cmp_n (by decide) ?_
  rw [B_179_152]
  refine cmp_n (by decide) ?_
  rw [B_179_165]
  refine cmp_n (by decide) ?_
  rw [B_179_178]
  refine cmp_n (by decide) ?_
  rw [B_179_191]
  refine cmp_n (by decide) ?_
  rw [B_179_204]
  rw [B_179_205]
  refine cmp_n (by decide) ?_
  rw [B_179_219]
  refine cmp_n (by decide) ?_
  rw [B_179_232]
  refine cmp_n (by decide) ?_
  rw [B_179_245]
  refine cmp_n (by decide) ?_
  rw [B_179_258]
  refine cmp_e rfl ?_
  rw [B_179_298]
  refine ⟨fun _ => ?_, fun w_z => absurd (by decide) w_z⟩
  rw [B_179_308]
  refine ⟨fun _ => ?_, fun w_z => absurd (by decide) w_z⟩
  rw [B_179_316]
  rw [B_179_318]
  exact ⟨trivial, hQ⟩
theorem X_op21 (hQ : Q (some (a_i 21)) T) : Call G J_M_operatorOf [a_l 7173484] T Q := by
  rw [E_M_operatorOf]
  rw [B_179_0]
  refine cmp_n (by decide) ?_
  rw [B_179_12]
  refine cmp_n (by decide) ?_
  rw [B_179_24]
  refine cmp_n (by decide) ?_
  rw [B_179_36]
  refine cmp_n (by decide) ?_
  rw [B_179_48]
  refine cmp_n (by decide) ?_
  rw [B_179_60]
  refine cmp_n (by decide) ?_
  rw [B_179_72]
  refine cmp_n (by decide) ?_
  rw [B_179_85]
  refine cmp_n (by decide) ?_
  rw [B_179_98]
  rw [B_179_99]
  refine cmp_n (by decide) ?_
  rw [B_179_113]
  refine cmp_n (by decide) ?_
  rw [B_179_126]
  refine cmp_n (by decide) ?_
  rw [B_179_139]
  refine cmp_n (by decide) ?_
  rw [B_179_152]
  refine cmp_n (by decide) ?_
  rw [B_179_165]
  refine cmp_n (by decide) ?_
  rw [B_179_178]
  refine cmp_n (by decide) ?_
  rw [B_179_191]
  refine cmp_n (by decide) ?_
  rw [B_179_204]
  rw [B_179_205]
  refine cmp_n (by decide) ?_
  rw [B_179_219]
  refine cmp_n (by decide) ?_
  rw [B_179_232]
  refine cmp_n (by decide) ?_
  rw [B_179_245]
  refine cmp_n (by decide) ?_
  rw [B_179_258]
  refine cmp_n (by decide) ?_
  rw [B_179_271]
  refine cmp_e rfl ?_
  rw [B_179_298]
  refine ⟨fun _ => ?_, fun w_z => absurd (by decide) w_z⟩
  rw [B_179_308]
  refine ⟨fun _ => ?_, fun w_z => absurd (by decide) w_z⟩
  rw [B_179_316]
  rw [B_179_318]
  exact ⟨trivial, hQ⟩
theorem X_op22 (hQ : Q (some (a_i 22)) T) : Call G J_M_operatorOf [a_l 6580598] T Q := by
  rw [E_M_operatorOf]
  rw [B_179_0]
  refine cmp_n (by decide) ?_
  rw [B_179_12]
  refine cmp_n (by decide) ?_
  rw [B_179_24]
  refine cmp_n (by decide) ?_
  rw [B_179_36]
  refine cmp_n (by decide) ?_
  rw [B_179_48]
  refine cmp_n (by decide) ?_
  rw [B_179_60]
  refine cmp_n (by decide) ?_
  rw [B_179_72]
  refine cmp_n (by decide) ?_
  rw [B_179_85]
  refine cmp_n (by decide) ?_
  rw [B_179_98]
  rw [B_179_99]
  refine cmp_n (by decide) ?_
  rw [B_179_113]
  refine cmp_n (by decide) ?_
  rw [B_179_126]
  refine cmp_n (by decide) ?_
  rw [B_179_139]
  refine cmp_n (by decide) ?_
  rw [B_179_152]
  refine cmp_n (by decide) ?_
  rw [B_179_165]
  refine cmp_n (by decide) ?_
  rw [B_179_178]
  refine cmp_n (by decide) ?_
  rw [B_179_191]
  refine cmp_n (by decide) ?_
  rw [B_179_204]
  rw [B_179_205]
  refine cmp_n (by decide) ?_
  rw [B_179_219]
  refine cmp_n (by decide) ?_
  rw [B_179_232]
  refine cmp_n (by decide) ?_
  rw [B_179_245]
  refine cmp_n (by decide) ?_
  rw [B_179_258]
  refine cmp_n (by decide) ?_
  rw [B_179_271]
  refine cmp_n (by decide) ?_
  rw [B_179_284]
  refine cmp_e rfl ?_
  rw [B_179_298]
  refine ⟨fun _ => ?_, fun w_z => absurd (by decide) w_z⟩
  rw [B_179_308]
  refine ⟨fun _ => ?_, fun w_z => absurd (by decide) w_z⟩
  rw [B_179_316]
  rw [B_179_318]
  exact ⟨trivial, hQ⟩
theorem X_opNo {v_z : Int} (n0_z : ¬ v_z = 1935767141) (n1_z : ¬ v_z = 32199693894120037) (n2_z : ¬ v_z = 109330244526452) (n3_z : ¬ v_z = 1836021349) (n4_z : ¬ v_z = 1818848869) (n5_z : ¬ v_z = 427021005669) (n6_z : ¬ v_z = 1919247220) (n7 : ¬ v_z = 1668049264) (n8 : ¬ v_z = 517064124784) (n9 : ¬ v_z = 1718185068) (n10 : ¬ v_z = 517114260588) (n11 : ¬ v_z = 1685221232) (n12 : ¬ v_z = 427071139698) (n13 : ¬ v_z = 1685217655) (n14_z : ¬ v_z = 125780002955636) (n15 : ¬ v_z = 1852143732) (n16 : ¬ v_z = 6583664) (n17 : ¬ v_z = 7368560) (n18_z : ¬ v_z = 1702388584) (n19 : ¬ v_z = 6382692) (n20 : ¬ v_z = 7566690) (n21_z : ¬ v_z = 7173484) (n22 : ¬ v_z = 6580598) (hQ : Q (some (a_i (-1))) T) : Call G J_M_operatorOf [a_l v_z] T Q := by
  rw [E_M_operatorOf]
  rw [B_179_0]
  refine cmp_n n0_z ?_
  rw [B_179_12]
  refine cmp_n n1_z ?_
  rw [B_179_24]
  refine cmp_n n2_z ?_
  rw [B_179_36]
  refine cmp_n n3_z ?_
  rw [B_179_48]
  refine cmp_n n4_z ?_
  rw [B_179_60]
  refine cmp_n n5_z ?_
  rw [B_179_72]
  refine cmp_n n6_z ?_
  rw [B_179_85]
  refine cmp_n n7 ?_
  rw [B_179_98]
  rw [B_179_99]
  refine cmp_n n8 ?_
  rw [B_179_113]
  refine cmp_n n9 ?_
  rw [B_179_126]
  refine cmp_n n10 ?_
  rw [B_179_139]
  refine cmp_n n11 ?_
  rw [B_179_152]
  refine cmp_n n12 ?_
  rw [B_179_165]
  refine cmp_n n13 ?_
  rw [B_179_178]
  refine cmp_n n14_z ?_
  rw [B_179_191]
  refine cmp_n n15 ?_
  rw [B_179_204]
  rw [B_179_205]
  refine cmp_n n16 ?_
  rw [B_179_219]
  refine cmp_n n17 ?_
  rw [B_179_232]
  refine cmp_n n18_z ?_
  rw [B_179_245]
  refine cmp_n n19 ?_
  rw [B_179_258]
  refine cmp_n n20 ?_
  rw [B_179_271]
  refine cmp_n n21_z ?_
  rw [B_179_284]
  refine cmp_n n22 ?_
  rw [B_179_297]
  rw [B_179_298]
  refine ⟨fun _ => ?_, fun w_z => absurd (by decide) w_z⟩
  rw [B_179_308]
  refine ⟨fun _ => ?_, fun w_z => absurd (by decide) w_z⟩
  rw [B_179_316]
  rw [B_179_318]
  exact ⟨trivial, hQ⟩
theorem X_operatorOf {v_z : Int} (hQ : Q (some (a_i (fdV v_z 0 23))) T) : Call G J_M_operatorOf [a_l v_z] T Q := by
  by_cases c_z : ∃ i_z : Nat, i_z < 23 ∧ v_z = wC i_z
  · obtain ⟨i_z, hi_z, hv⟩ := c_z
    have ev_z : ∀ i_z : Nat, i_z < 23 → fdV (wC i_z) 0 23 = (i_z : Int) := by decide +kernel
    have e1_z := ev_z i_z hi_z
    rw [← hv] at e1_z
    rw [e1_z] at hQ
    clear ev_z e1_z
    have hd_z : i_z = 0 ∨ i_z = 1 ∨ i_z = 2 ∨ i_z = 3 ∨ i_z = 4 ∨ i_z = 5 ∨ i_z = 6 ∨ i_z = 7 ∨ i_z = 8 ∨ i_z = 9 ∨ i_z = 10 ∨ i_z = 11 ∨ i_z = 12 ∨ i_z = 13 ∨ i_z = 14 ∨ i_z = 15 ∨ i_z = 16 ∨ i_z = 17 ∨ i_z = 18 ∨ i_z = 19 ∨ i_z = 20 ∨ i_z = 21 ∨ i_z = 22 := by omega
    rcases hd_z with q_z | q_z | q_z | q_z | q_z | q_z | q_z | q_z | q_z | q_z | q_z | q_z | q_z | q_z | q_z | q_z | q_z | q_z | q_z | q_z | q_z | q_z | q_z <;> subst q_z
    · have ec : wC 0 = 1935767141 := by decide +kernel
      rw [hv, ec]
      exact X_op0 hQ
    · have ec : wC 1 = 32199693894120037 := by decide +kernel
      rw [hv, ec]
      exact X_op1 hQ
    · have ec : wC 2 = 109330244526452 := by decide +kernel
      rw [hv, ec]
      exact X_op2 hQ
    · have ec : wC 3 = 1836021349 := by decide +kernel
      rw [hv, ec]
      exact X_op3 hQ
    · have ec : wC 4 = 1818848869 := by decide +kernel
      rw [hv, ec]
      exact X_op4 hQ
    · have ec : wC 5 = 427021005669 := by decide +kernel
      rw [hv, ec]
      exact X_op5 hQ
    · have ec : wC 6 = 1919247220 := by decide +kernel
      rw [hv, ec]
      exact X_op6 hQ
    · have ec : wC 7 = 1668049264 := by decide +kernel
      rw [hv, ec]
      exact X_op7 hQ
    · have ec : wC 8 = 517064124784 := by decide +kernel
      rw [hv, ec]
      exact X_op8 hQ
    · have ec : wC 9 = 1718185068 := by decide +kernel
      rw [hv, ec]
      exact X_op9 hQ
    · have ec : wC 10 = 517114260588 := by decide +kernel
      rw [hv, ec]
      exact X_op10 hQ
    · have ec : wC 11 = 1685221232 := by decide +kernel
      rw [hv, ec]
      exact X_op11 hQ
    · have ec : wC 12 = 427071139698 := by decide +kernel
      rw [hv, ec]
      exact X_op12 hQ
    · have ec : wC 13 = 1685217655 := by decide +kernel
      rw [hv, ec]
      exact X_op13 hQ
    · have ec : wC 14 = 125780002955636 := by decide +kernel
      rw [hv, ec]
      exact X_op14 hQ
    · have ec : wC 15 = 1852143732 := by decide +kernel
      rw [hv, ec]
      exact X_op15 hQ
    · have ec : wC 16 = 6583664 := by decide +kernel
      rw [hv, ec]
      exact X_op16 hQ
    · have ec : wC 17 = 7368560 := by decide +kernel
      rw [hv, ec]
      exact X_op17 hQ
    · have ec : wC 18 = 1702388584 := by decide +kernel
      rw [hv, ec]
      exact X_op18 hQ
    · have ec : wC 19 = 6382692 := by decide +kernel
      rw [hv, ec]
      exact X_op19 hQ
    · have ec : wC 20 = 7566690 := by decide +kernel
      rw [hv, ec]
      exact X_op20 hQ
    · have ec : wC 21 = 7173484 := by decide +kernel
      rw [hv, ec]
      exact X_op21 hQ
    · have ec : wC 22 = 6580598 := by decide +kernel
      rw [hv, ec]
      exact X_op22 hQ
  · have n0_z : ∀ i_z : Nat, i_z < 23 → ¬ v_z = wC i_z := fun i_z hi_z q_z => c_z ⟨i_z, hi_z, q_z⟩
    have ev_z : ∀ d_z i_z : Nat, i_z + d_z ≤ 23 → fdV v_z i_z d_z = -1 := by
      intro d_z
      induction d_z with
      | zero => exact fun _ _ => rfl
      | succ d_z ih_z =>
        intro i_z h_z
        unfold fdV
        rw [if_neg (n0_z i_z (by omega)), ih_z (i_z + 1) (by omega)]
    rw [ev_z 23 0 (by decide)] at hQ
    exact X_opNo (fun q_z => n0_z 0 (by decide) (by rw [q_z]; decide +kernel)) (fun q_z => n0_z 1 (by decide) (by rw [q_z]; decide +kernel)) (fun q_z => n0_z 2 (by decide) (by rw [q_z]; decide +kernel)) (fun q_z => n0_z 3 (by decide) (by rw [q_z]; decide +kernel)) (fun q_z => n0_z 4 (by decide) (by rw [q_z]; decide +kernel)) (fun q_z => n0_z 5 (by decide) (by rw [q_z]; decide +kernel)) (fun q_z => n0_z 6 (by decide) (by rw [q_z]; decide +kernel)) (fun q_z => n0_z 7 (by decide) (by rw [q_z]; decide +kernel)) (fun q_z => n0_z 8 (by decide) (by rw [q_z]; decide +kernel)) (fun q_z => n0_z 9 (by decide) (by rw [q_z]; decide +kernel)) (fun q_z => n0_z 10 (by decide) (by rw [q_z]; decide +kernel)) (fun q_z => n0_z 11 (by decide) (by rw [q_z]; decide +kernel)) (fun q_z => n0_z 12 (by decide) (by rw [q_z]; decide +kernel)) (fun q_z => n0_z 13 (by decide) (by rw [q_z]; decide +kernel)) (fun q_z => n0_z 14 (by decide) (by rw [q_z]; decide +kernel)) (fun q_z => n0_z 15 (by decide) (by rw [q_z]; decide +kernel)) (fun q_z => n0_z 16 (by decide) (by rw [q_z]; decide +kernel)) (fun q_z => n0_z 17 (by decide) (by rw [q_z]; decide +kernel)) (fun q_z => n0_z 18 (by decide) (by rw [q_z]; decide +kernel)) (fun q_z => n0_z 19 (by decide) (by rw [q_z]; decide +kernel)) (fun q_z => n0_z 20 (by decide) (by rw [q_z]; decide +kernel)) (fun q_z => n0_z 21 (by decide) (by rw [q_z]; decide +kernel)) (fun q_z => n0_z 22 (by decide) (by rw [q_z]; decide +kernel)) hQ
end EG
