/-! THE PURE PART, part 19: what nobody can write. Own work. -/
def rwK (e_z : CE) : Bool := match e_z.2.1 with
  | .putfield _ => Nat.ble (e_z.2.2.2.1 + 1) 99
  | _ => true
theorem rw_all : tabL.all (fun p_z => p_z.2.all rwK) = true := by decide +kernel
theorem rw_at (j_z : Nat) : (tab j_z).2.all rwK = true := by
  unfold tab
  have h_z := rw_all
  generalize tabL = L_z at h_z
  rw [List.getD_eq_getElem?_getD]
  cases e : L_z[j_z]? with
  | none => rfl
  | some p_z => exact List.all_eq_true.mp h_z p_z (List.mem_of_getElem? e)
/-- what any code keeps -/
def StabA (I : Mem → Prop) : Prop := (∀ (M_z : Mem) (r_z a_z : Nat) (c_z v_z : Int), I M_z → gK M_z r_z = a_z + 1 → Nat.ble (a_z + 1) 99 = true → I (uI M_z r_z c_z v_z)) ∧ (∀ (M_z : Mem) (r_z : Nat) (j_z v_z : Int), I M_z → gK M_z r_z = 100 → I (uI M_z r_z j_z v_z)) ∧ (∀ (M_z : Mem) (r_z : Nat) (j_z v_z : Int), I M_z → gK M_z r_z = 102 → I (uI M_z r_z j_z v_z)) ∧ (∀ (M_z : Mem) (a_z : Nat) (i_z : Int) (b_z : Nat) (j_z n_z : Int), I M_z → gK M_z a_z = 100 → I (uCI M_z a_z i_z b_z j_z n_z)) ∧ (∀ (M_z M' : Mem), gK M' = gK M_z → gN M' = gN M_z → gI M' = gI M_z → gz M' = gz M_z → I M_z → I M') ∧ (∀ (M_z : Mem) (c_z : Nat) (n_z : Int) (ns : Nat), I M_z → I (uN M_z c_z n_z ns))
section RO
variable {I : Mem → Prop}
theorem wspec_ro {c_z : Int} {st_z : List AV} {M_z : Mem} {kn_z kn' : List AV → Mem → Prop} (hS_z : StabA I) (hI : I M_z) (hn : ∀ s_z m_z, I m_z → kn_z s_z m_z → kn' s_z m_z) (h_z : wspec c_z st_z M_z kn_z) : wspec c_z st_z M_z kn' := by
  unfold wspec at h_z ⊢
  split at h_z
  · split at h_z
    · split at h_z
      · exact ⟨h_z.1, hn _ _ hI h_z.2⟩
      · exact h_z.elim
    · exact h_z.elim
  · split at h_z
    · split at h_z
      · obtain ⟨h1, h2, h3, h4, h5, h6, h7⟩ := h_z
        refine ⟨h1, h2, h3, h4, h5, h6, ?_⟩
        rcases h7 with h7 | h7
        · exact Or.inl ⟨h7.1, h7.2.1, hn _ _ (hS_z.2.2.2.1 _ _ _ _ _ _ hI h7.2.1) h7.2.2⟩
        · exact Or.inr ⟨h7.1, h7.2.1, hn _ _ (hS_z.2.2.2.2.1 M_z _ rfl rfl rfl rfl hI) h7.2.2⟩
      · exact h_z.elim
    · exact h_z.elim
set_option maxHeartbeats 16000000 in
theorem wpi_ro {G_z : Env0} {e0_z : Nat} {i_z : Instr} {pc a_z b_z : Nat} {c_z : Int} {ls st_z : List AV} {M_z : Mem} {kn_z kn' : List AV → List AV → Mem → Prop} {kj kj' : Nat → List AV → List AV → Mem → Prop} {kc_z kc' : Nat → List AV → Mem → (Option AV → Mem → Prop) → Prop} {q_z q' : Option AV → Mem → Prop}
    (hS_z : StabA I) (hw : rwK (pc, i_z, e0_z, a_z, b_z, c_z) = true) (hI : I M_z) (hn : ∀ l s_z m_z, I m_z → kn_z l s_z m_z → kn' l s_z m_z) (hj : ∀ t_z l s_z m_z, I m_z → kj t_z l s_z m_z → kj' t_z l s_z m_z) (hc_z : ∀ a_z as_z m_z Q_z Q'_z, I m_z → (∀ r_z m_z, I m_z → Q_z r_z m_z → Q'_z r_z m_z) → kc_z a_z as_z m_z Q_z → kc' a_z as_z m_z Q'_z) (hq : ∀ r_z m_z, I m_z → q_z r_z m_z → q' r_z m_z) (h_z : wpi G_z i_z pc a_z b_z c_z ls st_z M_z kn_z kj kc_z q_z) : wpi G_z i_z pc a_z b_z c_z ls st_z M_z kn' kj' kc' q' := by
  cases i_z
  case if_acmp cnd off =>
    cases cnd <;> simp only [wpi] at h_z ⊢ <;> (repeat' (split at h_z)) <;>
      first
      | exact h_z.elim
      | exact ⟨fun e_z => hj _ _ _ _ hI (h_z.1 e_z), fun e_z => hn _ _ _ hI (h_z.2 e_z)⟩
  all_goals
   simp only [wpi] at h_z ⊢ <;> (repeat' (split at h_z)) <;>
    first
    | exact h_z.elim
    | exact hn _ _ _ hI h_z
    | exact hj _ _ _ _ hI h_z
    | exact hq _ _ hI h_z
    | exact ldI_mono (fun _ => hn _ _ _ hI) h_z
    | exact ldL_mono (fun _ => hn _ _ _ hI) h_z
    | exact ldR_mono (fun _ => hn _ _ _ hI) h_z
    | exact ⟨h_z.1, hn _ _ _ hI h_z.2⟩
    | exact ⟨h_z.1, hq _ _ hI h_z.2⟩
    | exact ⟨h_z.1, hn _ _ _ (hS_z.1 _ _ _ _ _ hI h_z.1 hw) h_z.2⟩
    | exact ⟨h_z.1, h_z.2.1, hn _ _ _ (hS_z.1 _ _ _ _ _ hI h_z.1 hw) h_z.2.2⟩
    | exact ⟨h_z.1, h_z.2.1, hn _ _ _ hI h_z.2.2⟩
    | exact ⟨h_z.1, h_z.2.1, h_z.2.2.1, hn _ _ _ hI h_z.2.2.2⟩
    | exact ⟨h_z.1, h_z.2.1, h_z.2.2.1, hn _ _ _ (hS_z.2.1 _ _ _ _ hI h_z.1) h_z.2.2.2⟩
    | exact ⟨h_z.1, h_z.2.1, h_z.2.2.1, hn _ _ _ (hS_z.2.2.2.2.1 M_z _ rfl rfl rfl rfl hI) h_z.2.2.2⟩
    | exact ⟨h_z.1, hn _ _ _ (hS_z.2.2.2.2.1 M_z _ rfl rfl rfl rfl hI) h_z.2⟩
    | exact ⟨h_z.1, h_z.2.1, h_z.2.2.1, h_z.2.2.2.1, hn _ _ _ hI h_z.2.2.2.2⟩
    | exact ⟨h_z.1, h_z.2.1, h_z.2.2.1, h_z.2.2.2.1, hn _ _ _ (hS_z.2.2.1 _ _ _ _ hI h_z.1) h_z.2.2.2.2⟩
    | exact ⟨h_z.1, h_z.2.1, h_z.2.2.1, h_z.2.2.2.1, hn _ _ _ (hS_z.2.2.2.2.1 M_z _ rfl rfl rfl rfl hI) h_z.2.2.2.2⟩
    | exact ⟨h_z.1, hn _ _ _ (hS_z.2.2.2.2.2 _ _ _ _ hI) h_z.2⟩
    | exact ⟨h_z.1, h_z.2.1, hn _ _ _ (hS_z.2.2.2.2.2 _ _ _ _ hI) h_z.2.2⟩
    | exact ⟨fun e_z => hj _ _ _ _ hI (h_z.1 e_z), fun e_z => hn _ _ _ hI (h_z.2 e_z)⟩
    | exact ⟨fun e_z => hj _ _ _ _ hI (h_z.1 e_z), swT_mono (fun _ => hj _ _ _ _ hI) _ _ h_z.2⟩
    | exact swL_mono (fun _ => hj _ _ _ _ hI) _ h_z
    | exact wcall_inv hI (fun _ _ => hn _ _ _) (fun as_z m_z Q_z Q'_z => hc_z _ as_z m_z Q_z Q'_z) h_z
    | exact wspec_ro hS_z hI (fun _ _ => hn _ _ _) h_z
    | contradiction
end RO
theorem At.all {G_z : Env0} {I : Mem → Prop} (hS_z : StabA I) {j_z pc : Nat} {ls st_z : List AV} {M_z : Mem} {Q_z : Option AV → Mem → Prop} (hI : I M_z) (h_z : At G_z j_z pc ls st_z M_z Q_z) : At G_z j_z pc ls st_z M_z (fun r_z M' => Q_z r_z M' ∧ I M') := by
  have key_z := At.ind (G := G_z) (X := fun j_z pc ls st_z M_z Q_z => ∀ (Q'_z : Option AV → Mem → Prop), I M_z → (∀ r_z M', I M' → Q_z r_z M' → Q'_z r_z M') → At G_z j_z pc ls st_z M_z Q'_z) (fun j_z pc ls st_z M_z Q_z q_z Q'_z hI hQ => ?_) h_z (fun r_z M' => Q_z r_z M' ∧ I M') hI (fun r_z M' hI hq => ⟨hq, hI⟩)
  · exact key_z
  · refine At.fold ?_
    unfold stepX at q_z ⊢
    split at q_z
    · exact q_z.elim
    · rename_i p_z i_z len_z a_z b_z c_z L_z e_z
      have hm_z := (sfx_mem _ _ _ _ e_z).1
      have hw := List.all_eq_true.mp (rw_at j_z) _ hm_z
      have ep := (sfx_mem _ _ _ _ e_z).2.2
      refine wpi_ro (e0_z := len_z) hS_z hw hI (fun l s_z m_z hm_z k_z => k_z Q'_z hm_z hQ) (fun t_z l s_z m_z hm_z k_z => k_z Q'_z hm_z hQ) (fun a_z as_z m_z Q2_z Q2' hm_z h2 k_z => k_z Q2' hm_z h2) (fun r_z m_z hm_z k_z => hQ r_z m_z hm_z k_z) q_z
/-- the script, and the model's place -/
def RoI (B_z m_z : Nat) (n_z : Int) (f_z : Int → Int) (M_z : Mem) : Prop := gK M_z B_z = 104 ∧ gN M_z B_z = n_z ∧ gI M_z B_z = f_z ∧ B_z ≤ gz M_z ∧ gK M_z m_z = 11 ∧ m_z ≤ gz M_z
theorem stab_ro {B_z m_z : Nat} {n_z : Int} {f_z : Int → Int} : StabA (RoI B_z m_z n_z f_z) := by
  have uu : ∀ (M_z : Mem) (r_z : Nat) (c_z v_z : Int), RoI B_z m_z n_z f_z M_z → gK M_z r_z ≠ 104 → RoI B_z m_z n_z f_z (uI M_z r_z c_z v_z) := fun M_z r_z c_z v_z h_z hr => by
    obtain ⟨h1, h2, h3, h4, h5⟩ := h_z
    exact ⟨h1, h2, by rw [rI_ne (fun q_z => hr (by rw [← q_z]; exact h1))]; exact h3, h4, h5⟩
  refine ⟨fun M_z r_z a_z c_z v_z h_z h1 h2 => uu M_z r_z c_z v_z h_z ?_, fun M_z r_z j_z v_z h_z h1 => uu M_z r_z j_z v_z h_z (by omega), fun M_z r_z j_z v_z h_z h1 => uu M_z r_z j_z v_z h_z (by omega), fun M_z a_z i_z b_z j_z n' h_z h1 => ?_, fun M_z M' e1_z e2_z e3_z e4_z h_z => ?_, fun M_z c_z n' ns h_z => ?_⟩
  · have := Nat.le_of_ble_eq_true h2
    omega
  · obtain ⟨q1_z, q2_z, q3_z, q4_z, q5_z⟩ := h_z
    refine ⟨q1_z, q2_z, ?_, q4_z, q5_z⟩
    show gI (uCI M_z a_z i_z b_z j_z n') B_z = f_z
    rw [rCI_ne (fun q_z => by rw [← q_z, q1_z] at h1; omega)]
    exact q3_z
  · obtain ⟨q1_z, q2_z, q3_z, q4_z, q5_z, q6_z⟩ := h_z
    exact ⟨by rw [e1_z]; exact q1_z, by rw [e2_z]; exact q2_z, by rw [e3_z]; exact q3_z, by rw [e4_z]; exact q4_z, by rw [e1_z]; exact q5_z, by rw [e4_z]; exact q6_z⟩
  · obtain ⟨q1_z, q2_z, q3_z, q4_z, q5_z, q6_z⟩ := h_z
    have z1 : B_z ≠ gz M_z + 1 := by omega
    have z2 : m_z ≠ gz M_z + 1 := by omega
    exact ⟨by rw [nK_ne z1]; exact q1_z, by rw [nN_ne z1]; exact q2_z, by rw [nI_ne z1]; exact q3_z, by rw [gz_uN]; omega, by rw [nK_ne z2]; exact q5_z, by rw [gz_uN]; omega⟩
