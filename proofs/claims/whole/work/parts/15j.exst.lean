/-! THE PURE PART, part 15: what has a meaning has an end. Own work. -/
def swOk (e_z : CE) : Bool := match e_z.2.1 with
  | .tableswitch _ lo_z hi_z os => decide (hi_z - lo_z + 1 ≤ (os.toList.length : Int))
  | _ => true
theorem sw_all : tabL.all (fun p_z => p_z.2.all swOk) = true := by decide +kernel
theorem sw_at (j_z : Nat) : (tab j_z).2.all swOk = true := by
  unfold tab
  have h_z := sw_all
  generalize tabL = L_z at h_z
  rw [List.getD_eq_getElem?_getD]
  cases e : L_z[j_z]? with
  | none => rfl
  | some p_z => exact List.all_eq_true.mp h_z p_z (List.mem_of_getElem? e)
theorem sw_get {d_z lo_z hi_z : Int} {os : Array Int} {e0_z a_z b_z n_z : Nat} {c_z : Int} (h_z : swOk (e0_z, .tableswitch d_z lo_z hi_z os, n_z, a_z, b_z, c_z) = true) : hi_z - lo_z + 1 ≤ (os.toList.length : Int) := of_decide_eq_true h_z
section EX
variable {P : Prop}
theorem swT_ex {K_z : Nat → Prop} (h_z : ∀ t_z, K_z t_z → P) {pc : Nat} {x_z : Int} : ∀ (os : List Int) (i_z : Int), i_z ≤ x_z → x_z < i_z + os.length → swT K_z pc x_z i_z os → P
  | [], i_z, a_z, b_z, _ => by
    simp only [List.length_nil] at b_z
    omega
  | _ :: os, i_z, a_z, b_z, q_z => by
    by_cases e_z : x_z = i_z
    · exact h_z _ (q_z.1 e_z)
    · exact swT_ex h_z os (i_z + 1) (by omega) (by simp only [List.length_cons] at b_z; omega) q_z.2
theorem swL_ex {K_z : Nat → Prop} (h_z : ∀ t_z, K_z t_z → P) {pc : Nat} {x_z d_z : Int} : ∀ (ps_z : List (Int × Int)), swL K_z pc x_z d_z ps_z → P
  | [], q_z => h_z _ q_z
  | p_z :: ps_z, q_z => by
    by_cases e_z : x_z = p_z.1
    · exact h_z _ (q_z.1 e_z)
    · exact swL_ex h_z ps_z (q_z.2 e_z)
theorem ldI_ex {k_z : Nat} {ls : List AV} {f_z : AV → Prop} (h_z : ∀ v_z, f_z v_z → P) (q_z : ldI k_z ls f_z) : P := by
  unfold ldI at q_z
  split at q_z
  · exact h_z _ q_z
  · exact q_z.elim
theorem ldL_ex {k_z : Nat} {ls : List AV} {f_z : AV → Prop} (h_z : ∀ v_z, f_z v_z → P) (q_z : ldL k_z ls f_z) : P := by
  unfold ldL at q_z
  split at q_z
  · exact h_z _ q_z
  · exact q_z.elim
theorem ldR_ex {k_z : Nat} {ls : List AV} {f_z : AV → Prop} (h_z : ∀ v_z, f_z v_z → P) (q_z : ldR k_z ls f_z) : P := by
  unfold ldR at q_z
  split at q_z
  · exact h_z _ q_z
  · exact q_z.elim
theorem wcall_ex {a_z b_z : Nat} {c_z : Int} {st_z : List AV} {M_z : Mem} {kn_z : List AV → Mem → Prop} {kc_z : Nat → List AV → Mem → (Option AV → Mem → Prop) → Prop} (hn : ∀ s_z m_z, kn_z s_z m_z → P) (hc_z : ∀ a_z as_z m_z Q_z, (∀ r_z m_z, Q_z r_z m_z → P) → kc_z a_z as_z m_z Q_z → P) : wcall a_z b_z c_z st_z M_z kn_z kc_z → P := by
  unfold wcall
  cases popn (b_z % 1000) st_z [] with
  | none => exact fun h_z => h_z.elim
  | some p_z =>
    obtain ⟨as_z, st'⟩ := p_z
    dsimp only
    cases cat8 st' && Nat.beq ((as_z.map catv).sum) (b_z / 1000) with
    | false => exact fun h_z => h_z.elim
    | true =>
      dsimp only
      have k_z : (match as_z with
        | .inr (.inr (.inl r_z)) :: _ => gK M_z r_z = c_z.toNat ∧ kc_z a_z as_z M_z (fun r_z M' => kn_z (r_z.toList ++ st') M')
        | _ => False) → P := by
        rcases as_z with _ | ⟨v_z, as_z⟩
        · exact fun h_z => h_z.elim
        · rcases v_z with v_z | v_z | v_z | v_z
          · exact fun h_z => h_z.elim
          · exact fun h_z => h_z.elim
          · exact fun h_z => hc_z _ _ _ _ (fun r_z m_z q_z => hn _ _ q_z) h_z.2
          · exact fun h_z => h_z.elim
      rcases c_z with (_ | n_z) | n_z
      · exact fun h_z => hc_z _ _ _ _ (fun r_z m_z q_z => hn _ _ q_z) h_z
      · exact k_z
      · exact k_z
theorem wspec_ex {c_z : Int} {st_z : List AV} {M_z : Mem} {kn_z : List AV → Mem → Prop} (hn : ∀ s_z m_z, kn_z s_z m_z → P) (h_z : wspec c_z st_z M_z kn_z) : P := by
  unfold wspec at h_z
  split at h_z
  · split at h_z
    · split at h_z
      · exact hn _ _ h_z.2
      · exact h_z.elim
    · exact h_z.elim
  · split at h_z
    · split at h_z
      · obtain ⟨h1, h2, h3, h4, h5, h6, h7⟩ := h_z
        rcases h7 with h7 | h7
        · exact hn _ _ h7.2.2
        · exact hn _ _ h7.2.2
      · exact h_z.elim
    · exact h_z.elim
theorem two_ex {A_z B_z C_z : Prop} (hB_z : B_z → P) (hC : C_z → P) (h_z : (A_z → B_z) ∧ (¬ A_z → C_z)) : P := by
  by_cases a_z : A_z
  · exact hB_z (h_z.1 a_z)
  · exact hC (h_z.2 a_z)
theorem two_ex' {A_z B_z C_z : Prop} (hB_z : B_z → P) (hC : C_z → P) (h_z : (¬ A_z → B_z) ∧ (A_z → C_z)) : P := by
  by_cases a_z : A_z
  · exact hC (h_z.2 a_z)
  · exact hB_z (h_z.1 a_z)
theorem tsw_ex {K_z : Nat → Prop} {x_z lo_z hi_z : Int} {pc : Nat} {os : List Int} {B_z : Prop} (hB_z : B_z → P) (hK_z : ∀ t_z, K_z t_z → P) (hl : hi_z - lo_z + 1 ≤ (os.length : Int)) (h_z : (x_z < lo_z ∨ hi_z < x_z → B_z) ∧ swT K_z pc x_z lo_z os) : P := by
  by_cases a_z : x_z < lo_z ∨ hi_z < x_z
  · exact hB_z (h_z.1 a_z)
  · exact swT_ex hK_z os lo_z (by omega) (by omega) h_z.2
set_option maxHeartbeats 8000000 in
theorem wpi_ex {G_z : Env0} {e0_z : Nat} {i_z : Instr} {pc a_z b_z : Nat} {c_z : Int} {ls st_z : List AV} {M_z : Mem} {kn_z : List AV → List AV → Mem → Prop} {kj : Nat → List AV → List AV → Mem → Prop} {kc_z : Nat → List AV → Mem → (Option AV → Mem → Prop) → Prop} {q_z : Option AV → Mem → Prop}
    (hw : swOk (e0_z, i_z, 0, a_z, b_z, c_z) = true) (hn : ∀ l s_z m_z, kn_z l s_z m_z → P) (hj : ∀ t_z l s_z m_z, kj t_z l s_z m_z → P) (hc_z : ∀ a_z as_z m_z Q_z, (∀ r_z m_z, Q_z r_z m_z → P) → kc_z a_z as_z m_z Q_z → P) (hq : ∀ r_z m_z, q_z r_z m_z → P) (h_z : wpi G_z i_z pc a_z b_z c_z ls st_z M_z kn_z kj kc_z q_z) : P := by
  cases i_z <;> simp only [wpi] at h_z <;> (repeat' (split at h_z)) <;>
    first
    | exact h_z.elim
    | exact hn _ _ _ h_z
    | exact hj _ _ _ _ h_z
    | exact hq _ _ h_z
    | exact ldI_ex (fun _ => hn _ _ _) h_z
    | exact ldL_ex (fun _ => hn _ _ _) h_z
    | exact ldR_ex (fun _ => hn _ _ _) h_z
    | exact hn _ _ _ h_z.2
    | exact hq _ _ h_z.2
    | exact hn _ _ _ h_z.2.2
    | exact hn _ _ _ h_z.2.2.2
    | exact hn _ _ _ h_z.2.2.2.2
    | exact two_ex (hj _ _ _ _) (hn _ _ _) h_z
    | exact two_ex' (hj _ _ _ _) (hn _ _ _) h_z
    | exact tsw_ex (hj _ _ _ _) (fun t_z => hj t_z _ _ _) (sw_get hw) h_z
    | exact swL_ex (fun _ => hj _ _ _ _) _ h_z
    | exact wcall_ex (fun _ _ => hn _ _ _) hc_z h_z
    | exact wspec_ex (fun _ _ => hn _ _ _) h_z
    | refine tsw_ex ?_ ?_ ?_ h_z
      · exact hj _ _ _ _
      · exact fun t_z k_z => hj t_z _ _ _ k_z
      · first | exact sw_get hw | contradiction
end EX
theorem At.ex {G_z : Env0} {j_z pc : Nat} {ls st_z : List AV} {M_z : Mem} {Q_z : Option AV → Mem → Prop} (h_z : At G_z j_z pc ls st_z M_z Q_z) : ∃ r_z M', Q_z r_z M' := by
  refine At.ind (X := fun _ _ _ _ _ Q_z => ∃ r_z M', Q_z r_z M') (fun j_z pc ls st_z M_z Q_z q_z => ?_) h_z
  unfold stepX at q_z
  split at q_z
  · exact q_z.elim
  · rename_i p_z i_z len_z a_z b_z c_z L_z e_z
    have hm_z := (sfx_mem _ _ _ _ e_z).1
    have hw := List.all_eq_true.mp (sw_at j_z) _ hm_z
    refine wpi_ex (e0_z := p_z) (i_z := i_z) (a_z := a_z) (b_z := b_z) (c_z := c_z) hw (fun l s_z m_z k_z => k_z) (fun t_z l s_z m_z k_z => k_z) (fun a_z as_z m_z Q2_z h2 k_z => ?_) (fun r_z m_z k_z => ⟨r_z, m_z, k_z⟩) q_z
    obtain ⟨r_z, m', k2_z⟩ := k_z
    exact h2 r_z m' k2_z
