/-! THE PURE PART, part 17: sums over the cells of a page. Own work. -/
/-- the sum over the first k_z cells of a grid of width W_z -/
def gsm (f_z : Nat → Nat → Int) (W_z : Nat) : Nat → Int
  | 0 => 0
  | k_z + 1 => gsm f_z W_z k_z + f_z (k_z % W_z) (k_z / W_z)
theorem gsm_bd {f_z : Nat → Nat → Int} (hf : ∀ x_z y_z, f_z x_z y_z = 0 ∨ f_z x_z y_z = 1) (W_z k_z : Nat) : 0 ≤ gsm f_z W_z k_z ∧ gsm f_z W_z k_z ≤ k_z := by
  induction k_z with
  | zero => exact ⟨by simp [gsm], by simp [gsm]⟩
  | succ k_z ih_z =>
    have := hf (k_z % W_z) (k_z / W_z)
    unfold gsm
    omega
/-- row by row -/
theorem grid_C {f_z : Nat → Nat → Int} (hf : ∀ x_z y_z, f_z x_z y_z = 0 ∨ f_z x_z y_z = 1) {W_z H_z : Nat} (hW : W_z ≤ 24) (hH : H_z ≤ 24) {s5 : Int → Nat → Prop} {s17 : Int → Nat → Nat → Prop} {Fin_z : Int → Prop}
    (a1_z : ∀ n_z y_z, y_z < H_z → s17 n_z y_z 0 → s5 n_z y_z) (a2 : ∀ n_z, Fin_z n_z → s5 n_z H_z)
    (b1 : ∀ n_z y_z x_z, 0 ≤ n_z → n_z ≤ 576 → y_z < H_z → x_z < W_z → s17 (n_z + f_z x_z y_z) y_z (x_z + 1) → s17 n_z y_z x_z) (b2 : ∀ n_z y_z, y_z < H_z → s5 n_z (y_z + 1) → s17 n_z y_z W_z) (h_z : Fin_z (gsm f_z W_z (W_z * H_z))) : s5 0 0 := by
  have big : W_z * H_z ≤ 24 * 24 := Nat.mul_le_mul hW hH
  have outer_z : ∀ d_z y_z : Nat, y_z + d_z = H_z → s5 (gsm f_z W_z (W_z * y_z)) y_z := by
    intro d_z
    induction d_z with
    | zero =>
      intro y_z hy
      have : y_z = H_z := by omega
      subst this
      exact a2 _ h_z
    | succ d_z ih_z =>
      intro y_z hy
      have nx := ih_z (y_z + 1) (by omega)
      rw [Nat.mul_add, Nat.mul_one] at nx
      have mo : W_z * y_z + W_z ≤ W_z * H_z := by
        have := Nat.mul_le_mul_left W_z (show y_z + 1 ≤ H_z from by omega)
        rw [Nat.mul_add, Nat.mul_one] at this
        exact this
      have inner_z : ∀ e_z x_z : Nat, x_z + e_z = W_z → s17 (gsm f_z W_z (W_z * y_z + x_z)) y_z x_z := by
        intro e_z
        induction e_z with
        | zero =>
          intro x_z hx
          have : x_z = W_z := by omega
          subst this
          exact b2 _ _ (by omega) nx
        | succ e_z ih2 =>
          intro x_z hx
          have g_z := gsm_bd hf W_z (W_z * y_z + x_z)
          refine b1 _ _ _ g_z.1 (by omega) (by omega) (by omega) ?_
          have := ih2 (x_z + 1) (by omega)
          have e1_z : gsm f_z W_z (W_z * y_z + (x_z + 1)) = gsm f_z W_z (W_z * y_z + x_z) + f_z ((W_z * y_z + x_z) % W_z) ((W_z * y_z + x_z) / W_z) := rfl
          rw [e1_z, Nat.mul_add_mod, Nat.mod_eq_of_lt (by omega), Nat.mul_add_div (by omega), Nat.div_eq_of_lt (by omega), Nat.add_zero] at this
          exact this
      exact a1_z _ _ (by omega) (inner_z W_z 0 (by omega))
  have := outer_z H_z 0 (by omega)
  rw [Nat.mul_zero] at this
  exact this
/-- one after the other -/
theorem grid_M {f_z : Nat → Nat → Int} (hf : ∀ x_z y_z, f_z x_z y_z = 0 ∨ f_z x_z y_z = 1) {W_z H_z : Nat} (hW : W_z ≤ 24) (hH : H_z ≤ 24) {s_z : Int → Nat → Prop} {Fin_z : Int → Prop}
    (a1_z : ∀ n_z k_z, 0 ≤ n_z → n_z ≤ 576 → k_z < W_z * H_z → k_z % W_z < W_z → k_z / W_z < H_z → s_z (n_z + f_z (k_z % W_z) (k_z / W_z)) (k_z + 1) → s_z n_z k_z) (a2 : ∀ n_z, Fin_z n_z → s_z n_z (W_z * H_z)) (h_z : Fin_z (gsm f_z W_z (W_z * H_z))) : s_z 0 0 := by
  have big : W_z * H_z ≤ 24 * 24 := Nat.mul_le_mul hW hH
  have outer_z : ∀ d_z k_z : Nat, k_z + d_z = W_z * H_z → s_z (gsm f_z W_z k_z) k_z := by
    intro d_z
    induction d_z with
    | zero =>
      intro y_z hy
      have : y_z = W_z * H_z := by omega
      subst this
      exact a2 _ h_z
    | succ d_z ih_z =>
      intro k_z hk
      have g_z := gsm_bd hf W_z k_z
      have W0_z : 0 < W_z := by
        rcases Nat.eq_zero_or_pos W_z with q_z | q_z
        · subst q_z
          rw [Nat.zero_mul] at hk
          omega
        · exact q_z
      exact a1_z _ _ g_z.1 (by omega) (by omega) (Nat.mod_lt _ W0_z) (Nat.div_lt_of_lt_mul (by omega)) (ih_z (k_z + 1) (by omega))
  exact outer_z (W_z * H_z) 0 (by omega)
theorem tmd (k_z W_z : Nat) : Int.tmod (k_z : Int) (W_z : Int) = ((k_z % W_z : Nat) : Int) := (Int.ofNat_tmod k_z W_z).symm
theorem tdd (k_z W_z : Nat) : Int.tdiv (k_z : Int) (W_z : Int) = ((k_z / W_z : Nat) : Int) := (Int.ofNat_tdiv k_z W_z).symm
