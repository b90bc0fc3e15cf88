/-! THE PURE PART, part 18: tokens, and what reading a text comes to. Own work. -/
theorem rnE_end (f_z : Int → Int) {L_z : Int} (hf : ∀ i_z, L_z ≤ i_z → f_z i_z = 0) : ∀ (d_z : Nat) (x_z : Int), L_z ≤ x_z + d_z → f_z (rnE f_z d_z x_z) = 0
  | 0, x_z, h_z => hf x_z (by omega)
  | d_z + 1, x_z, h_z => by
    have ih_z := rnE_end f_z hf d_z (x_z + 1) (by omega)
    unfold rnE
    by_cases c_z : f_z x_z = 0
    · rw [if_pos c_z]
      exact c_z
    · rw [if_neg c_z]
      exact ih_z
theorem skE_bd {t_z : Int → Int} {L_z x_z : Int} (h_z : x_z ≤ L_z) : x_z ≤ skE t_z L_z x_z ∧ skE t_z L_z x_z ≤ L_z := by
  have := rnE_bd (spI t_z L_z) (L_z - x_z).toNat x_z
  unfold skE
  omega
/-- the code of the token at x_z; -1: there is none -/
def tkC (t_z : Int → Int) (L_z x_z : Int) : Int :=
  if sg t_z L_z x_z = 36 then (if x_z + 1 < L_z ∧ 65 ≤ sg t_z L_z (x_z + 1) ∧ sg t_z L_z (x_z + 1) ≤ 72 then 100 + sg t_z L_z (x_z + 1) - 65 else -1)
  else if nmI t_z L_z x_z ≠ 0 then (if nuD t_z L_z x_z (tkE t_z L_z x_z) = 0 then -1 else cdN (nuN t_z L_z x_z (tkE t_z L_z x_z)) (nuD t_z L_z x_z (tkE t_z L_z x_z)))
  else if ltI t_z L_z x_z ≠ 0 then fdO t_z x_z (tkE t_z L_z x_z - x_z) 0 23 else -1
theorem fdO_short {t_z : Int → Int} {x_z n_z : Int} (hn : n_z < 3) : ∀ (d_z i_z : Nat), i_z + d_z ≤ 23 → fdO t_z x_z n_z i_z d_z = -1
  | 0, _, _ => rfl
  | d_z + 1, i_z, h_z => by
    have ih_z := fdO_short (t_z := t_z) (x_z := x_z) hn d_z (i_z + 1) (by omega)
    have b_z : ∀ i_z, i_z < 23 → 3 ≤ (opB i_z).length := by decide +kernel
    have b2 := b_z i_z (by omega)
    unfold fdO
    rw [if_neg (fun w_z => by have := w_z.1; omega), ih_z]
theorem nuN_bd {t_z : Int → Int} {L_z x_z e_z : Int} (h_z : nuD t_z L_z x_z e_z ≠ 0) : (nuN t_z L_z x_z e_z).natAbs ≤ 999 ∧ 1 ≤ nuD t_z L_z x_z e_z ∧ nuD t_z L_z x_z e_z ≤ 9 := by
  have bd := dgs_bd t_z L_z e_z 4 (nuF t_z L_z x_z) 0 (by decide) (by decide) (by decide)
  have bv_z := dgs_v t_z L_z e_z 4 (nuF t_z L_z x_z) 0 (by decide) (by decide) (by decide)
  unfold nuN
  unfold nuD at h_z ⊢
  generalize dgs t_z L_z e_z 4 (nuF t_z L_z x_z) 0 = p_z at *
  by_cases c1_z : p_z.1 - nuF t_z L_z x_z < 1 ∨ 3 < p_z.1 - nuF t_z L_z x_z ∨ (1 < p_z.1 - nuF t_z L_z x_z ∧ sg t_z L_z (nuF t_z L_z x_z) = 48)
  · rw [if_pos c1_z] at h_z
    exact absurd rfl h_z
  · rw [if_neg c1_z] at h_z ⊢
    have v_z := bv_z (by omega)
    refine ⟨by split <;> omega, ?_⟩
    by_cases c2_z : p_z.1 = e_z
    · rw [if_pos c2_z]
      omega
    · rw [if_neg c2_z] at h_z ⊢
      by_cases c3_z : sg t_z L_z p_z.1 = 47 ∧ p_z.1 + 2 = e_z ∧ 2 ≤ sg t_z L_z (p_z.1 + 1) - 48 ∧ sg t_z L_z (p_z.1 + 1) - 48 ≤ 9
      · rw [if_pos c3_z]
        omega
      · rw [if_neg c3_z] at h_z
        exact absurd rfl h_z
theorem cdN_nv {n_z d_z : Int} (hn : n_z.natAbs ≤ 999) (h0 : 1 ≤ d_z) (h9 : d_z ≤ 9) : litOf (cdN n_z d_z) = low n_z d_z ∧ 10000 ≤ cdN n_z d_z ∧ NV (low n_z d_z) := by
  obtain ⟨a_z, b_z, c_z⟩ := nu_small hn h0 h9
  obtain ⟨q1_z, q2_z⟩ := cdN_lit hn h0 h9
  refine ⟨q1_z, q2_z, ?_⟩
  unfold low lok
  rw [if_pos (by omega)]
  exact nv_pk (by omega)
/-- what a token can be -/
theorem tkC_name {t_z : Int → Int} {L_z x_z : Int} (h_z : sg t_z L_z x_z = 36) : (tkC t_z L_z x_z = -1 ∧ ¬ (x_z + 1 < L_z ∧ 65 ≤ sg t_z L_z (x_z + 1) ∧ sg t_z L_z (x_z + 1) ≤ 72)) ∨ (x_z + 1 < L_z ∧ 65 ≤ sg t_z L_z (x_z + 1) ∧ sg t_z L_z (x_z + 1) ≤ 72 ∧ tkC t_z L_z x_z = 100 + sg t_z L_z (x_z + 1) - 65 ∧ tkE t_z L_z x_z = x_z + 2) := by
  unfold tkC tkE
  rw [if_pos h_z, if_pos h_z]
  by_cases c_z : x_z + 1 < L_z ∧ 65 ≤ sg t_z L_z (x_z + 1) ∧ sg t_z L_z (x_z + 1) ≤ 72
  · rw [if_pos c_z, if_pos c_z.1]
    exact Or.inr ⟨c_z.1, c_z.2.1, c_z.2.2, rfl, rfl⟩
  · rw [if_neg c_z]
    exact Or.inl ⟨rfl, c_z⟩
theorem tkC_num {t_z : Int → Int} {L_z x_z : Int} (h_z : ¬ sg t_z L_z x_z = 36) (h2 : nmI t_z L_z x_z ≠ 0) : (tkC t_z L_z x_z = -1 ∧ nuD t_z L_z x_z (tkE t_z L_z x_z) = 0) ∨ (nuD t_z L_z x_z (tkE t_z L_z x_z) ≠ 0 ∧ litOf (tkC t_z L_z x_z) = low (nuN t_z L_z x_z (tkE t_z L_z x_z)) (nuD t_z L_z x_z (tkE t_z L_z x_z)) ∧ 10000 ≤ tkC t_z L_z x_z ∧ NV (litOf (tkC t_z L_z x_z)) ∧ tkC t_z L_z x_z = cdN (nuN t_z L_z x_z (tkE t_z L_z x_z)) (nuD t_z L_z x_z (tkE t_z L_z x_z))) := by
  unfold tkC
  rw [if_neg h_z, if_pos h2]
  by_cases c_z : nuD t_z L_z x_z (tkE t_z L_z x_z) = 0
  · rw [if_pos c_z]
    exact Or.inl ⟨rfl, c_z⟩
  · rw [if_neg c_z]
    obtain ⟨a1_z, a2, a3⟩ := nuN_bd c_z
    obtain ⟨b1, b2, b3⟩ := cdN_nv a1_z a2 a3
    exact Or.inr ⟨c_z, b1, b2, by rw [b1]; exact b3, rfl⟩
theorem tkC_op {t_z : Int → Int} {L_z x_z : Int} (h_z : ¬ sg t_z L_z x_z = 36) (h2 : nmI t_z L_z x_z = 0) : tkC t_z L_z x_z = fdO t_z x_z (tkE t_z L_z x_z - x_z) 0 23 ∧ (tkC t_z L_z x_z = -1 ∨ (0 ≤ tkC t_z L_z x_z ∧ tkC t_z L_z x_z ≤ 22 ∧ x_z + 3 ≤ tkE t_z L_z x_z)) := by
  have e_z : tkC t_z L_z x_z = fdO t_z x_z (tkE t_z L_z x_z - x_z) 0 23 := by
    unfold tkC
    rw [if_neg h_z, if_neg (fun q_z => q_z h2)]
    by_cases c_z : ltI t_z L_z x_z ≠ 0
    · rw [if_pos c_z]
    · rw [if_neg c_z]
      have : tkE t_z L_z x_z = x_z + 1 := by
        unfold tkE
        rw [if_neg h_z, if_neg (fun q_z => q_z h2), if_neg c_z]
      rw [this, fdO_short (by omega) 23 0 (by decide)]
  refine ⟨e_z, ?_⟩
  have b_z := fdO_bd t_z x_z (tkE t_z L_z x_z - x_z) 23 0
  rw [e_z]
  by_cases c_z : tkE t_z L_z x_z - x_z < 3
  · exact Or.inl (fdO_short c_z 23 0 (by decide))
  · omega
theorem tkC_kind (t_z : Int → Int) (L_z x_z : Int) : tkC t_z L_z x_z = -1 ∨ (0 ≤ tkC t_z L_z x_z ∧ tkC t_z L_z x_z ≤ 22) ∨ (100 ≤ tkC t_z L_z x_z ∧ tkC t_z L_z x_z ≤ 107) ∨ 10000 ≤ tkC t_z L_z x_z := by
  by_cases h_z : sg t_z L_z x_z = 36
  · have := tkC_name h_z
    omega
  · by_cases h2 : nmI t_z L_z x_z = 0
    · have := (tkC_op h_z h2).2
      omega
    · have := tkC_num h_z h2
      omega
/-- the number of tokens before x_z -/
def Jn (t_z : Int → Int) (L_z : Int) (n_z : Nat) (x_z : Int) : Prop := 3 * (n_z : Int) ≤ 2 * x_z ∨ (3 * (n_z : Int) ≤ 2 * x_z + 1 ∧ nmI t_z L_z x_z = 0)
theorem Jn.step {t_z : Int → Int} {L_z x_z : Int} {n_z : Nat} (h_z : Jn t_z L_z n_z x_z) (x0_z : 0 ≤ x_z) (x1_z : x_z < L_z) (hc_z : 0 ≤ tkC t_z L_z x_z) : Jn t_z L_z (n_z + 1) (skE t_z L_z (tkE t_z L_z x_z)) := by
  have eb := tkE_bd (t := t_z) x0_z x1_z
  have sb_z := skE_bd (t_z := t_z) (L_z := L_z) (x_z := tkE t_z L_z x_z) eb.2
  unfold Jn at h_z ⊢
  by_cases h1 : sg t_z L_z x_z = 36
  · have q_z := tkC_name h1
    left
    omega
  · by_cases h2 : nmI t_z L_z x_z = 0
    · have q_z := (tkC_op h1 h2).2
      left
      omega
    · have ee : tkE t_z L_z x_z = nuE t_z L_z (x_z + 1) := by
        unfold tkE
        rw [if_neg h1, if_pos h2]
      by_cases c_z : skE t_z L_z (tkE t_z L_z x_z) = tkE t_z L_z x_z
      · right
        rw [c_z]
        refine ⟨by omega, ?_⟩
        rw [ee]
        exact rnE_end (nmI t_z L_z) (fun i_z hi_z => nmI_out hi_z) _ _ (by omega)
      · left
        omega
/-- what lies on top: 0 a save, 1 a repeat, 2 nothing -/
def hdI : Stk → Int
  | [] => 2
  | (true, _) :: _ => 1
  | (false, _) :: _ => 0
theorem hdI_0 {s_z : Stk} : hdI s_z = 0 ↔ ∃ j_z L_z, s_z = (false, j_z) :: L_z := by
  cases s_z with
  | nil => exact ⟨fun w_z => absurd w_z (by decide), fun ⟨j_z, L_z, w_z⟩ => by cases w_z⟩
  | cons a_z s_z =>
    obtain ⟨e_z, j_z⟩ := a_z
    cases e_z
    · exact ⟨fun _ => ⟨j_z, s_z, rfl⟩, fun _ => rfl⟩
    · exact ⟨fun w_z => absurd w_z (by show ¬ (1 : Int) = 0; decide), fun ⟨j_z, L_z, w_z⟩ => by cases w_z⟩
theorem hdI_1 {s_z : Stk} : hdI s_z = 1 ↔ ∃ j_z L_z, s_z = (true, j_z) :: L_z := by
  cases s_z with
  | nil => exact ⟨fun w_z => absurd w_z (by decide), fun ⟨j_z, L_z, w_z⟩ => by cases w_z⟩
  | cons a_z s_z =>
    obtain ⟨e_z, j_z⟩ := a_z
    cases e_z
    · exact ⟨fun w_z => absurd w_z (by show ¬ (0 : Int) = 1; decide), fun ⟨j_z, L_z, w_z⟩ => by cases w_z⟩
    · exact ⟨fun _ => ⟨j_z, s_z, rfl⟩, fun _ => rfl⟩
/-- whether a token is allowed; pa, mq: whether a part is open and the path is marked -/
def okT (c_z : Int) (s_z : Stk × Bool) (pa mq : Int) : Prop :=
  ((0 ≤ c_z ∧ c_z ≤ 22) ∨ (100 ≤ c_z ∧ c_z ≤ 107) ∨ 10000 ≤ c_z) ∧
  (c_z = 0 → s_z.2 = false ∧ nsv s_z.1 < 6) ∧ (c_z = 14 → s_z.2 = false ∧ nrp s_z.1 < 3) ∧ (c_z = 1 → s_z.2 = false ∧ hdI s_z.1 = 0) ∧ (c_z = 15 → s_z.2 = false ∧ hdI s_z.1 = 1) ∧
  ((c_z = 4 ∨ c_z = 5 ∨ c_z = 7 ∨ c_z = 8 ∨ c_z = 9 ∨ c_z = 10 ∨ c_z = 11) → s_z.2 = true) ∧ ((c_z = 2 ∨ c_z = 12 ∨ c_z = 13 ∨ (100 ≤ c_z ∧ c_z ≤ 107)) → s_z.2 = false) ∧ ((c_z = 4 ∨ c_z = 5) → pa = 1) ∧ ((c_z = 7 ∨ c_z = 8) → mq = 0)
def okD (c_z : Int) (s_z : Stk × Bool) (pa mq : Int) : Decidable (okT c_z s_z pa mq) := by unfold okT; exact inferInstance
theorem okT.legal {c_z : Int} {s_z : Stk × Bool} {pa mq : Int} (h_z : okT c_z s_z pa mq) : legal c_z s_z := by
  obtain ⟨h1, h2, h3, h4, h5, h6, h7, h8, h9⟩ := h_z
  exact ⟨h1, h2, h3, fun q_z => ⟨(h4 q_z).1, hdI_0.mp (h4 q_z).2⟩, fun q_z => ⟨(h5 q_z).1, hdI_1.mp (h5 q_z).2⟩, h6, h7⟩
def npa (c_z pa : Int) : Int := if c_z = 3 then 1 else if c_z = 5 ∨ c_z = 6 ∨ c_z = 9 ∨ c_z = 10 ∨ c_z = 11 then 0 else pa
def nmk (c_z mq : Int) : Int := if c_z = 7 ∨ c_z = 8 then 1 else if c_z = 9 ∨ c_z = 10 ∨ c_z = 11 then 0 else mq
def updC (cd : Nat → Int) (n_z : Nat) (c_z : Int) : Nat → Int := fun k_z => if k_z = n_z then c_z else cd k_z
theorem updC_lt {cd : Nat → Int} {n_z k_z : Nat} {c_z : Int} (h_z : k_z < n_z) : updC cd n_z c_z k_z = cd k_z := if_neg (by omega)
theorem updC_at {cd : Nat → Int} {n_z : Nat} {c_z : Int} : updC cd n_z c_z n_z = c_z := if_pos rfl
theorem updC_scan {cd : Nat → Int} {n_z k_z : Nat} {c_z : Int} (h_z : k_z ≤ n_z) : scan (updC cd n_z c_z) k_z = scan cd k_z := scan_congr (fun i_z hi_z => updC_lt (by omega))
theorem updC_next {cd : Nat → Int} {n_z : Nat} {c_z : Int} : scan (updC cd n_z c_z) (n_z + 1) = stepF c_z n_z (scan cd n_z) := by
  show stepF (updC cd n_z c_z n_z) n_z (scan (updC cd n_z c_z) n_z) = _
  rw [updC_at, updC_scan (Nat.le_refl n_z)]
/-- reads on from x_z, behind n_z tokens: the place of the error (-1: none), the number of tokens, their codes -/
def rdT (t_z : Int → Int) (L_z : Int) : Nat → Nat → (Nat → Int) → Int → Int → Int → Int × Nat × (Nat → Int)
  | 0, n_z, cd, x_z, _, _ => (x_z, n_z, cd)
  | d_z + 1, n_z, cd, x_z, pa, mq => if L_z ≤ x_z then ((if scan cd n_z = ([], false) then -1 else L_z), n_z, cd) else if tkC t_z L_z x_z < 0 then (x_z, n_z, cd) else @ite _ (okT (tkC t_z L_z x_z) (scan cd n_z) pa mq) (okD _ _ _ _) (rdT t_z L_z d_z (n_z + 1) (updC cd n_z (tkC t_z L_z x_z)) (skE t_z L_z (tkE t_z L_z x_z)) (npa (tkC t_z L_z x_z) pa) (nmk (tkC t_z L_z x_z) mq)) (x_z, n_z, cd)
theorem rdT_end {t_z : Int → Int} {L_z x_z pa mq : Int} {d_z n_z : Nat} {cd : Nat → Int} (h_z : L_z ≤ x_z) : rdT t_z L_z (d_z + 1) n_z cd x_z pa mq = ((if scan cd n_z = ([], false) then -1 else L_z), n_z, cd) := if_pos h_z
theorem rdT_bad {t_z : Int → Int} {L_z x_z pa mq : Int} {d_z n_z : Nat} {cd : Nat → Int} (h_z : ¬ L_z ≤ x_z) (hb_z : tkC t_z L_z x_z < 0 ∨ ¬ okT (tkC t_z L_z x_z) (scan cd n_z) pa mq) : rdT t_z L_z (d_z + 1) n_z cd x_z pa mq = (x_z, n_z, cd) := by
  unfold rdT
  rw [if_neg h_z]
  by_cases c_z : tkC t_z L_z x_z < 0
  · rw [if_pos c_z]
  · rw [if_neg c_z, if_neg (hb_z.elim (fun q_z => absurd q_z c_z) id)]
theorem rdT_good {t_z : Int → Int} {L_z x_z pa mq : Int} {d_z n_z : Nat} {cd : Nat → Int} (h_z : ¬ L_z ≤ x_z) (h0 : 0 ≤ tkC t_z L_z x_z) (hk : okT (tkC t_z L_z x_z) (scan cd n_z) pa mq) : rdT t_z L_z (d_z + 1) n_z cd x_z pa mq = rdT t_z L_z d_z (n_z + 1) (updC cd n_z (tkC t_z L_z x_z)) (skE t_z L_z (tkE t_z L_z x_z)) (npa (tkC t_z L_z x_z) pa) (nmk (tkC t_z L_z x_z) mq) := by
  show (if L_z ≤ x_z then _ else if tkC t_z L_z x_z < 0 then _ else @ite _ (okT (tkC t_z L_z x_z) (scan cd n_z) pa mq) (okD _ _ _ _) _ _) = _
  rw [if_neg h_z, if_neg (by omega), if_pos hk]
/-- what is right of a text that is read without an error -/
theorem rdT_ok {t_z : Int → Int} {L_z : Int} (hL : L_z ≤ 160) (h0 : 0 ≤ L_z) : ∀ (d_z n_z : Nat) (cd : Nat → Int) (x_z pa mq : Int), 0 ≤ x_z → x_z ≤ L_z → Jn t_z L_z n_z x_z → (∀ k_z, k_z < n_z → legal (cd k_z) (scan cd k_z)) → (∀ n' cd', rdT t_z L_z d_z n_z cd x_z pa mq = (-1, n', cd') → WfP cd' n' ∧ n' ≤ 107 ∧ n_z ≤ n') ∧ (∀ e_z n' cd', rdT t_z L_z d_z n_z cd x_z pa mq = (e_z, n', cd') → -1 ≤ e_z ∧ e_z ≤ L_z)
  | 0, n_z, cd, x_z, pa, mq, x0_z, x1_z, _, _ => by
    refine ⟨fun n' cd' h_z => ?_, fun e_z n' cd' h_z => ?_⟩
    · have : x_z = -1 := congrArg Prod.fst h_z
      omega
    · have : x_z = e_z := congrArg Prod.fst h_z
      omega
  | d_z + 1, n_z, cd, x_z, pa, mq, x0_z, x1_z, hj, hl => by
    by_cases c1_z : L_z ≤ x_z
    · rw [rdT_end c1_z]
      by_cases c2_z : scan cd n_z = ([], false)
      · rw [if_pos c2_z]
        refine ⟨fun n' cd' h_z => ?_, fun e_z n' cd' h_z => ?_⟩
        · have e1_z : n_z = n' := congrArg (fun p_z => p_z.2.1) h_z
          have e2_z : cd = cd' := congrArg (fun p_z => p_z.2.2) h_z
          subst e1_z
          subst e2_z
          refine ⟨⟨hl, c2_z⟩, ?_, Nat.le_refl _⟩
          unfold Jn at hj
          omega
        · have : -1 = e_z := congrArg Prod.fst h_z
          omega
      · rw [if_neg c2_z]
        refine ⟨fun n' cd' h_z => ?_, fun e_z n' cd' h_z => ?_⟩
        · have : L_z = -1 := congrArg Prod.fst h_z
          omega
        · have : L_z = e_z := congrArg Prod.fst h_z
          omega
    · by_cases c3_z : 0 ≤ tkC t_z L_z x_z ∧ okT (tkC t_z L_z x_z) (scan cd n_z) pa mq
      · obtain ⟨c3_z, c4_z⟩ := c3_z
        rw [rdT_good c1_z c3_z c4_z]
        have eb := tkE_bd (t := t_z) x0_z (show x_z < L_z by omega)
        have sb_z := skE_bd (t_z := t_z) (L_z := L_z) (x_z := tkE t_z L_z x_z) eb.2
        have ih_z := rdT_ok hL h0 d_z (n_z + 1) (updC cd n_z (tkC t_z L_z x_z)) (skE t_z L_z (tkE t_z L_z x_z)) (npa (tkC t_z L_z x_z) pa) (nmk (tkC t_z L_z x_z) mq) (by omega) (by omega) (hj.step x0_z (by omega) c3_z) (fun k_z hk => by
          by_cases c5_z : k_z = n_z
          · rw [c5_z, updC_at, updC_scan (Nat.le_refl n_z)]
            exact c4_z.legal
          · rw [updC_lt (by omega), updC_scan (by omega)]
            exact hl k_z (by omega))
        refine ⟨fun n' cd' h_z => ?_, ih_z.2⟩
        obtain ⟨q1_z, q2_z, q3_z⟩ := ih_z.1 n' cd' h_z
        exact ⟨q1_z, q2_z, by omega⟩
      · have c4_z : tkC t_z L_z x_z < 0 ∨ ¬ okT (tkC t_z L_z x_z) (scan cd n_z) pa mq := by
          by_cases c5_z : tkC t_z L_z x_z < 0
          · exact Or.inl c5_z
          · exact Or.inr (fun q_z => c3_z ⟨by omega, q_z⟩)
        rw [rdT_bad c1_z c4_z]
        refine ⟨fun n' cd' h_z => ?_, fun e_z n' cd' h_z => ?_⟩
        · have : x_z = -1 := congrArg Prod.fst h_z
          omega
        · have : x_z = e_z := congrArg Prod.fst h_z
          omega
