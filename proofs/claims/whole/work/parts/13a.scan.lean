/-! THE PURE PART, part 13: what is open at a place of a stream. Own work. -/
abbrev Stk : Type := List (Bool × Nat)
/-- what a token does to what is open: pairs (a repeat or a save, its place), and whether a path is open -/
def stepF (c_z : Int) (k_z : Nat) (s_z : Stk × Bool) : Stk × Bool :=
  if c_z = 0 then ((false, k_z) :: s_z.1, s_z.2) else if c_z = 14 then ((true, k_z) :: s_z.1, s_z.2) else if c_z = 1 ∨ c_z = 15 then (s_z.1.tail, s_z.2) else if c_z = 3 ∨ c_z = 6 then (s_z.1, true) else if c_z = 9 ∨ c_z = 10 ∨ c_z = 11 then (s_z.1, false) else s_z
def scan (cd : Nat → Int) : Nat → Stk × Bool
  | 0 => ([], false)
  | k_z + 1 => stepF (cd k_z) k_z (scan cd k_z)
def nsv : Stk → Nat
  | [] => 0
  | (true, _) :: L_z => nsv L_z
  | (false, _) :: L_z => nsv L_z + 1
def nrp : Stk → Nat
  | [] => 0
  | (true, _) :: L_z => nrp L_z + 1
  | (false, _) :: L_z => nrp L_z
/-- a token that is allowed -/
def legal (c_z : Int) (s_z : Stk × Bool) : Prop :=
  ((0 ≤ c_z ∧ c_z ≤ 22) ∨ (100 ≤ c_z ∧ c_z ≤ 107) ∨ 10000 ≤ c_z) ∧
  (c_z = 0 → s_z.2 = false ∧ nsv s_z.1 < 6) ∧ (c_z = 14 → s_z.2 = false ∧ nrp s_z.1 < 3) ∧ (c_z = 1 → s_z.2 = false ∧ ∃ j_z L_z, s_z.1 = (false, j_z) :: L_z) ∧ (c_z = 15 → s_z.2 = false ∧ ∃ j_z L_z, s_z.1 = (true, j_z) :: L_z) ∧
  ((c_z = 4 ∨ c_z = 5 ∨ c_z = 7 ∨ c_z = 8 ∨ c_z = 9 ∨ c_z = 10 ∨ c_z = 11) → s_z.2 = true) ∧ ((c_z = 2 ∨ c_z = 12 ∨ c_z = 13 ∨ (100 ≤ c_z ∧ c_z ≤ 107)) → s_z.2 = false)
/-- a stream of n_z tokens -/
def WfP (cd : Nat → Int) (n_z : Nat) : Prop := (∀ k_z, k_z < n_z → legal (cd k_z) (scan cd k_z)) ∧ scan cd n_z = ([], false)
/-- the stack remembers -/
def Hst (cd : Nat → Int) (k_z : Nat) : Stk → Prop
  | [] => True
  | (e_z, j_z) :: L_z => j_z < k_z ∧ scan cd j_z = (L_z, false) ∧ scan cd (j_z + 1) = ((e_z, j_z) :: L_z, false) ∧ cd j_z = (if e_z then 14 else 0) ∧ Hst cd j_z L_z
theorem Hst.mono {cd : Nat → Int} {k_z k' : Nat} (hk : k_z ≤ k') : ∀ {L_z : Stk}, Hst cd k_z L_z → Hst cd k' L_z
  | [], _ => trivial
  | (_, _) :: _, h_z => ⟨Nat.lt_of_lt_of_le h_z.1 hk, h_z.2⟩
theorem Hst.tail {cd : Nat → Int} {k_z : Nat} {p_z : Bool × Nat} {L_z : Stk} (h_z : Hst cd k_z (p_z :: L_z)) : Hst cd k_z L_z := h_z.2.2.2.2.mono (Nat.le_of_lt h_z.1)
theorem hst {cd : Nat → Int} {n_z : Nat} (h_z : ∀ k_z, k_z < n_z → legal (cd k_z) (scan cd k_z)) : ∀ k_z, k_z ≤ n_z → Hst cd k_z (scan cd k_z).1 ∧ nsv (scan cd k_z).1 ≤ 6 ∧ nrp (scan cd k_z).1 ≤ 3
  | 0, _ => ⟨trivial, Nat.zero_le _, Nat.zero_le _⟩
  | k_z + 1, hk => by
    obtain ⟨h1, h2, h3⟩ := hst h_z k_z (by omega)
    obtain ⟨l0, l1, l2, l3, l4, l5, l6⟩ := h_z k_z (by omega)
    have e_z : scan cd (k_z + 1) = stepF (cd k_z) k_z (scan cd k_z) := rfl
    generalize hs : scan cd k_z = s_z at *
    obtain ⟨L_z, p_z⟩ := s_z
    dsimp only at *
    unfold stepF at e_z
    dsimp only at e_z
    by_cases c0_z : cd k_z = 0
    · rw [if_pos c0_z] at e_z
      obtain ⟨q1_z, q2_z⟩ := l1 c0_z
      subst q1_z
      rw [e_z]
      exact ⟨⟨Nat.lt_succ_self k_z, hs, e_z, by rw [c0_z]; rfl, h1⟩, by show nsv L_z + 1 ≤ 6; omega, h3⟩
    · rw [if_neg c0_z] at e_z
      by_cases c14_z : cd k_z = 14
      · rw [if_pos c14_z] at e_z
        obtain ⟨q1_z, q2_z⟩ := l2 c14_z
        subst q1_z
        rw [e_z]
        exact ⟨⟨Nat.lt_succ_self k_z, hs, e_z, by rw [c14_z]; rfl, h1⟩, h2, by show nrp L_z + 1 ≤ 3; omega⟩
      · rw [if_neg c14_z] at e_z
        by_cases c1_z : cd k_z = 1 ∨ cd k_z = 15
        · rw [if_pos c1_z] at e_z
          rw [e_z]
          have key_z : ∃ b_z j_z L', L_z = (b_z, j_z) :: L' := by
            rcases c1_z with c1_z | c1_z
            · obtain ⟨-, j_z, L', q_z⟩ := l3 c1_z
              exact ⟨_, j_z, L', q_z⟩
            · obtain ⟨-, j_z, L', q_z⟩ := l4 c1_z
              exact ⟨_, j_z, L', q_z⟩
          obtain ⟨b_z, j_z, L', q_z⟩ := key_z
          subst q_z
          refine ⟨(h1.tail).mono (Nat.le_succ k_z), ?_, ?_⟩
          · cases b_z
            · have : nsv L' + 1 ≤ 6 := h2
              show nsv L' ≤ 6
              omega
            · exact h2
          · cases b_z
            · exact h3
            · have : nrp L' + 1 ≤ 3 := h3
              show nrp L' ≤ 3
              omega
        · rw [if_neg c1_z] at e_z
          have e1_z : (scan cd (k_z + 1)).1 = L_z := by
            rw [e_z]
            split
            · rfl
            · split <;> rfl
          rw [e1_z]
          exact ⟨h1.mono (Nat.le_succ k_z), h2, h3⟩
/-- the loops that are open, by their starts -/
def LpO : Stk → Int → (Int → Int) → Prop
  | [], w_z, _ => w_z = 0
  | (true, j_z) :: L_z, w_z, f_z => f_z (w_z - 1) = (j_z : Int) ∧ LpO L_z (w_z - 1) f_z
  | (false, _) :: L_z, w_z, f_z => LpO L_z w_z f_z
theorem LpO.num : ∀ {L_z : Stk} {w_z : Int} {f_z : Int → Int}, LpO L_z w_z f_z → w_z = (nrp L_z : Int)
  | [], _, _, h_z => h_z
  | (true, _) :: L_z, w_z, f_z, h_z => by
    have := LpO.num h_z.2
    show w_z = ((nrp L_z + 1 : Nat) : Int)
    omega
  | (false, _) :: L_z, w_z, f_z, h_z => LpO.num (L_z := L_z) h_z
theorem LpO.congr : ∀ {L_z : Stk} {w_z : Int} {f_z g_z : Int → Int}, (∀ i_z, 0 ≤ i_z → i_z < w_z → f_z i_z = g_z i_z) → LpO L_z w_z f_z → LpO L_z w_z g_z
  | [], _, _, _, _, h_z => h_z
  | (true, _) :: L_z, w_z, f_z, g_z, e_z, h_z => by
    have hn := LpO.num h_z.2
    refine ⟨?_, LpO.congr (fun i_z h1 h2 => e_z i_z h1 (by omega)) h_z.2⟩
    rw [← e_z (w_z - 1) (by omega) (by omega)]
    exact h_z.1
  | (false, _) :: L_z, w_z, f_z, g_z, e_z, h_z => LpO.congr (L_z := L_z) e_z h_z
/-- what belongs to a repeat -/
def Par (cd : Nat → Int) (j_z q_z : Nat) : Prop := j_z < q_z ∧ cd q_z = 15 ∧ scan cd q_z = ((true, j_z) :: (scan cd j_z).1, false)
theorem stepF_next {k_z : Nat} {s_z : Stk × Bool} : stepF 15 k_z s_z = (s_z.1.tail, s_z.2) := by
  unfold stepF
  rw [if_neg (by decide), if_neg (by decide), if_pos (Or.inr rfl)]
/-- between a_z repeat and its next, the repeat stays open -/
theorem par_mid {cd : Nat → Int} {j_z q_z : Nat} (h_z : Par cd j_z q_z) : ∀ d_z k_z : Nat, q_z = k_z + d_z → j_z < k_z → ∃ X_z, (scan cd k_z).1 = X_z ++ (true, j_z) :: (scan cd j_z).1
  | 0, k_z, e_z, _ => ⟨[], by
    rw [show k_z = q_z from by omega, h_z.2.2]
    rfl⟩
  | d_z + 1, k_z, e_z, hj => by
    obtain ⟨X_z, hX⟩ := par_mid h_z d_z (k_z + 1) (by omega) (by omega)
    have es : scan cd (k_z + 1) = stepF (cd k_z) k_z (scan cd k_z) := rfl
    rw [es] at hX
    unfold stepF at hX
    by_cases c0_z : cd k_z = 0
    · rw [if_pos c0_z] at hX
      cases X_z with
      | nil => cases hX
      | cons a_z X_z =>
        injection hX with h1 h2
        exact ⟨X_z, h2⟩
    · rw [if_neg c0_z] at hX
      by_cases c14_z : cd k_z = 14
      · rw [if_pos c14_z] at hX
        cases X_z with
        | nil =>
          injection hX with h1 h2
          injection h1 with h3 h4
          omega
        | cons a_z X_z =>
          injection hX with h1 h2
          exact ⟨X_z, h2⟩
      · rw [if_neg c14_z] at hX
        by_cases c1_z : cd k_z = 1 ∨ cd k_z = 15
        · rw [if_pos c1_z] at hX
          have hX : (scan cd k_z).1.tail = X_z ++ (true, j_z) :: (scan cd j_z).1 := hX
          generalize (scan cd k_z).1 = L_z at hX ⊢
          cases L_z with
          | nil =>
            exact absurd hX.symm (by simp)
          | cons a_z L_z => exact ⟨a_z :: X_z, by rw [List.cons_append, ← hX]; rfl⟩
        · rw [if_neg c1_z] at hX
          refine ⟨X_z, ?_⟩
          rw [← hX]
          split
          · rfl
          · split <;> rfl
theorem nrp_app : ∀ (X_z Y : Stk), nrp (X_z ++ Y) = nrp X_z + nrp Y
  | [], Y => by simp [nrp]
  | (true, _) :: X_z, Y => by
    have := nrp_app X_z Y
    show nrp (X_z ++ Y) + 1 = nrp X_z + 1 + nrp Y
    omega
  | (false, _) :: X_z, Y => nrp_app X_z Y
/-- the number of open repeats behind a token -/
theorem nrp_step {cd : Nat → Int} {k_z : Nat} (h_z : legal (cd k_z) (scan cd k_z)) : (nrp (scan cd (k_z + 1)).1 : Int) = nrp (scan cd k_z).1 + (if cd k_z = 14 then 1 else if cd k_z = 15 then -1 else 0) := by
  obtain ⟨l0, l1, l2, l3, l4, l5, l6⟩ := h_z
  have es : scan cd (k_z + 1) = stepF (cd k_z) k_z (scan cd k_z) := rfl
  rw [es]
  unfold stepF
  by_cases c0_z : cd k_z = 0
  · rw [if_pos c0_z, if_neg (by omega), if_neg (by omega)]
    show ((nrp (scan cd k_z).1 : Nat) : Int) = _
    omega
  · rw [if_neg c0_z]
    by_cases c14_z : cd k_z = 14
    · rw [if_pos c14_z, if_pos c14_z]
      show ((nrp (scan cd k_z).1 + 1 : Nat) : Int) = _
      omega
    · rw [if_neg c14_z, if_neg c14_z]
      by_cases c1_z : cd k_z = 1
      · obtain ⟨-, j_z, L_z, q_z⟩ := l3 c1_z
        rw [if_pos (Or.inl c1_z), if_neg (by omega), q_z]
        show ((nrp L_z : Nat) : Int) = ((nrp L_z : Nat) : Int) + 0
        omega
      · by_cases c15_z : cd k_z = 15
        · obtain ⟨-, j_z, L_z, q_z⟩ := l4 c15_z
          rw [if_pos (Or.inr c15_z), if_pos c15_z, q_z]
          show ((nrp L_z : Nat) : Int) = ((nrp L_z + 1 : Nat) : Int) + -1
          omega
        · rw [if_neg (by omega), if_neg c15_z]
          have : ∀ s_z : Stk × Bool, s_z.1 = (scan cd k_z).1 → ((nrp s_z.1 : Nat) : Int) = (nrp (scan cd k_z).1 : Int) + 0 := fun s_z e_z => by rw [e_z]; omega
          apply this
          split
          · rfl
          · split <;> rfl
