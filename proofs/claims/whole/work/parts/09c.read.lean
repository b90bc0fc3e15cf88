/-! THE PURE PART, part 9: the class reads its text. Own work. -/
/-- the sign at a place of the text (0: none) -/
def sgn (M_z : Mem) (r_z : Nat) (x_z : Int) : Int := if 0 ≤ x_z ∧ x_z < gI M_z r_z 5 ∧ x_z < 160 then gI M_z (gR M_z r_z 0) x_z else 0
/-- a reader and its text -/
def RdOk (M_z : Mem) (r_z : Nat) : Prop := gK M_z r_z = 2 ∧ gK M_z (gR M_z r_z 0) = 100 ∧ gN M_z (gR M_z r_z 0) = 160 ∧ 0 ≤ gI M_z r_z 5 ∧ gI M_z r_z 5 ≤ 160
section CS
variable {G : Env0} {Q : Option AV → Mem → Prop} {M : Mem} {r : Nat}
theorem X_signAt {x_z : Int} (hr : RdOk M r) (h_z : Q (some (a_i (sgn M r x_z))) M) : Call G J_Rd_signAt [a_r r, a_i x_z] M Q := by
  obtain ⟨h1, h2, h3, h4, h5⟩ := hr
  unfold sgn at h_z
  simp only [E_Rd_signAt, B_20_0, B_20_28, B_20_29]
  repeat' (first | intro _ | apply And.intro)
  all_goals first | exact trivial | exact h1 | exact Or.inl h2 | omega | (rw [if_neg (by omega)] at h_z; exact h_z) | (rw [if_pos (by omega)] at h_z; exact h_z)
/-- what the places between x_z and w_z hold: spaces; at w_z none, or the end -/
def SpTo (M_z : Mem) (r_z : Nat) (x_z w_z : Int) : Prop := x_z ≤ w_z ∧ (∀ k_z, x_z ≤ k_z → k_z < w_z → k_z < gI M_z r_z 5 ∧ sgn M_z r_z k_z = 32) ∧ (gI M_z r_z 5 ≤ w_z ∨ sgn M_z r_z w_z ≠ 32)
theorem skip_loop {y_z : Int} (hr : RdOk M r) : ∀ (n_z : Nat) (x_z : Int), (gI M r 5 - x_z).toNat = n_z → 0 ≤ x_z → x_z ≤ 200 → (∀ w_z, SpTo M r x_z w_z → w_z ≤ 200 → Q (some (a_i w_z)) M) → At G 19 2 [a_r r, a_i y_z, a_i x_z] [] M Q := by
  intro n_z
  induction n_z with
  | zero =>
    intro x_z hn h0 h1 h_z
    obtain ⟨e1_z, e2_z, e3_z, e4_z, e5_z⟩ := hr
    rw [B_19_2]
    refine ⟨e1_z, fun c_z => ?_, fun c_z => absurd c_z (by omega)⟩
    rw [B_19_26]
    exact ⟨trivial, h_z x_z ⟨by omega, fun k_z q1_z q2_z => absurd q1_z (by omega), Or.inl c_z⟩ h1⟩
  | succ n_z ih_z =>
    intro x_z hn h0 h1 h_z
    have hr2 := hr
    obtain ⟨e1_z, e2_z, e3_z, e4_z, e5_z⟩ := hr
    rw [B_19_2]
    refine ⟨e1_z, fun c_z => absurd c_z (by omega), fun c_z => ⟨e1_z, X_signAt hr2 ?_⟩⟩
    simp only [Option.toList_some, List.append_nil, B_19_15, B_19_26]
    refine ⟨fun c1_z => ⟨trivial, h_z x_z ⟨by omega, fun k_z q1_z q2_z => absurd q1_z (by omega), Or.inr c1_z⟩ h1⟩, fun c1_z => ⟨⟨by omega, by omega⟩, ?_⟩⟩
    refine ih_z (x_z + 1) (by omega) (by omega) (by omega) (fun w_z hw hw2 => h_z w_z ⟨by have := hw.1; omega, fun k_z q1_z q2_z => ?_, hw.2.2⟩ hw2)
    by_cases c2_z : k_z = x_z
    · rw [c2_z]
      exact ⟨by omega, by omega⟩
    · exact hw.2.1 k_z (by omega) q2_z
theorem X_skipSpaces {x_z : Int} (hr : RdOk M r) (h0 : 0 ≤ x_z) (h1 : x_z ≤ 200) (h_z : ∀ w_z, SpTo M r x_z w_z → w_z ≤ 200 → Q (some (a_i w_z)) M) : Call G J_Rd_skipSpaces [a_r r, a_i x_z] M Q := by
  rw [E_Rd_skipSpaces, B_19_0]
  exact skip_loop hr _ x_z rfl h0 h1 h_z
end CS
