/-! THE PURE PART, part 15: fields that nobody writes. Own work. -/
/-- some fields F of the object o (of kind k0) as they were -/
def IV (o k0 : Nat) (F : List Int) (M0 M_z : Mem) : Prop := gK M_z = gK M0 ∧ gK M0 o = k0 ∧ ∀ f_z, f_z ∈ F → gI M_z o f_z = gI M0 o f_z
def pfOk (k0 : Nat) (F : List Int) (a_z b_z : Nat) (c_z : Int) : Bool := !(Nat.beq (a_z + 1) k0 && F.contains c_z) && Nat.ble (a_z + 1) 99 && (!(Nat.beq b_z 2) || (Nat.beq a_z 7 && c_z == 3))
def rowF (k0 : Nat) (F : List Int) (A_z : List Nat) (P0_z : Nat → Nat) (p0_z : Nat) (e_z : CE) : Bool := match e_z.2.1 with
  | .putfield _ => pfOk k0 F e_z.2.2.2.1 e_z.2.2.2.2.1 e_z.2.2.2.2.2
  | .aastore => false
  | .invokevirtual _ => A_z.contains e_z.2.2.2.1 && Nat.beq (P0_z e_z.2.2.2.1) 0
  | .invokestatic _ => (match e_z.2.2.2.2.2 with
    | .ofNat _ => A_z.contains e_z.2.2.2.1 && Nat.beq (P0_z e_z.2.2.2.1) 0
    | _ => true)
  | .invokespecial _ => (match e_z.2.2.2.2.2 with
    | .ofNat _ => A_z.contains e_z.2.2.2.1 && Nat.beq (P0_z e_z.2.2.2.1) 0
    | _ => true)
  | .new _ => false
  | .newarray _ => false
  | .anewarray _ => false
  | .ifCond _ o => Nat.ble p0_z (tgt e_z.1 o)
  | .if_icmp _ o => Nat.ble p0_z (tgt e_z.1 o)
  | .if_acmp _ o => Nat.ble p0_z (tgt e_z.1 o)
  | .ifnull o => Nat.ble p0_z (tgt e_z.1 o)
  | .ifnonnull o => Nat.ble p0_z (tgt e_z.1 o)
  | .goto o => Nat.ble p0_z (tgt e_z.1 o)
  | .tableswitch _ _ _ _ => Nat.beq p0_z 0
  | .lookupswitch _ _ => Nat.beq p0_z 0
  | _ => true
def chkF (k0 : Nat) (F : List Int) (A_z : List Nat) (P0_z : Nat → Nat) (p0_z : Nat) : List CE → Bool
  | [] => true
  | e_z :: L_z => (Nat.blt e_z.1 p0_z || (rowF k0 F A_z P0_z p0_z e_z && Nat.ble p0_z (hdp L_z))) && chkF k0 F A_z P0_z p0_z L_z
theorem chkF_at {k0 : Nat} {F : List Int} {A_z : List Nat} {P0_z : Nat → Nat} {p0_z : Nat} : ∀ (L_z : List CE) (pc : Nat) (e_z : CE) (L' : List CE), chkF k0 F A_z P0_z p0_z L_z = true → sfx L_z pc = e_z :: L' → p0_z ≤ pc → rowF k0 F A_z P0_z p0_z e_z = true ∧ p0_z ≤ hdp L'
  | [], _, _, _, _, h_z, _ => by cases h_z
  | f_z :: L_z, pc, e_z, L', hc_z, h_z, hp => by
    simp only [chkF, Bool.and_eq_true, Bool.or_eq_true] at hc_z
    by_cases hf : f_z.1 = pc
    · subst hf
      rw [sfx_eq] at h_z
      cases h_z
      rcases hc_z.1 with q_z | q_z
      · rw [Nat.blt_eq] at q_z
        omega
      · exact ⟨q_z.1, Nat.le_of_ble_eq_true q_z.2⟩
    · rw [sfx_ne hf] at h_z
      exact chkF_at L_z pc e_z L' hc_z.2 h_z hp
/-- what such code keeps -/
def Stab (k0 : Nat) (F : List Int) (I : Mem → Prop) : Prop := (∀ (M_z : Mem) (r_z a_z b_z : Nat) (c_z v_z : Int), I M_z → gK M_z r_z = a_z + 1 → pfOk k0 F a_z b_z c_z = true → I (uI M_z r_z c_z v_z)) ∧ (∀ (M_z : Mem) (r_z : Nat) (j_z v_z : Int), I M_z → gK M_z r_z = 100 → I (uI M_z r_z j_z v_z)) ∧ (∀ (M_z : Mem) (r_z : Nat) (j_z v_z : Int), I M_z → gK M_z r_z = 102 → isT v_z → I (uI M_z r_z j_z v_z)) ∧ (∀ (M_z : Mem) (a_z b_z : Nat) (i_z j_z n_z : Int), I M_z → gK M_z a_z = 100 → I (uCI M_z a_z i_z b_z j_z n_z)) ∧ (∀ (M_z M' : Mem), gK M' = gK M_z → gI M' = gI M_z → gR M' = gR M_z → I M_z → I M') ∧ (∀ (M_z : Mem) (r_z a_z : Nat) (c_z : Int) (v_z : Nat), I M_z → gK M_z r_z = a_z + 1 → pfOk k0 F a_z 2 c_z = true → I (uR M_z r_z c_z v_z))
theorem Stab.and {k0 : Nat} {F : List Int} {I J_z : Mem → Prop} (h_z : Stab k0 F I) (h' : Stab k0 F J_z) : Stab k0 F (fun M_z => I M_z ∧ J_z M_z) := by
  obtain ⟨a1_z, a2, a3, a4, a5, a6⟩ := h_z
  obtain ⟨b1, b2, b3, b4, b5, b6⟩ := h'
  exact ⟨fun M_z r_z a_z b_z c_z v_z q_z h1 h2 => ⟨a1_z M_z r_z a_z b_z c_z v_z q_z.1 h1 h2, b1 M_z r_z a_z b_z c_z v_z q_z.2 h1 h2⟩, fun M_z r_z j_z v_z q_z h1 => ⟨a2 M_z r_z j_z v_z q_z.1 h1, b2 M_z r_z j_z v_z q_z.2 h1⟩, fun M_z r_z j_z v_z q_z h1 h2 => ⟨a3 M_z r_z j_z v_z q_z.1 h1 h2, b3 M_z r_z j_z v_z q_z.2 h1 h2⟩, fun M_z a_z b_z i_z j_z n_z q_z h1 => ⟨a4 M_z a_z b_z i_z j_z n_z q_z.1 h1, b4 M_z a_z b_z i_z j_z n_z q_z.2 h1⟩, fun M_z M' e1_z e2_z e3_z q_z => ⟨a5 M_z M' e1_z e2_z e3_z q_z.1, b5 M_z M' e1_z e2_z e3_z q_z.2⟩, fun M_z r_z a_z c_z v_z q_z h1 h2 => ⟨a6 M_z r_z a_z c_z v_z q_z.1 h1 h2, b6 M_z r_z a_z c_z v_z q_z.2 h1 h2⟩⟩
/-- the fields F of an object as they were -/
theorem stab_F {o k0 : Nat} {F : List Int} {M0 : Mem} (hk : k0 < 100) : Stab k0 F (IV o k0 F M0) := by
  have uu : ∀ (M_z : Mem) (r_z : Nat) (c_z v_z : Int), IV o k0 F M0 M_z → ¬ (r_z = o ∧ c_z ∈ F) → IV o k0 F M0 (uI M_z r_z c_z v_z) := fun M_z r_z c_z v_z h_z hr => by
    obtain ⟨h1, h2, h3⟩ := h_z
    refine ⟨h1, h2, fun f_z hf => ?_⟩
    rw [gI_uI, if_neg (fun q_z => hr ⟨q_z.1.symm, by rw [← q_z.2]; exact hf⟩)]
    exact h3 f_z hf
  have ko : ∀ (M_z : Mem) (r_z : Nat), IV o k0 F M0 M_z → r_z = o → gK M_z r_z = k0 := fun M_z r_z h_z e_z => by
    rw [e_z, h_z.1]
    exact h_z.2.1
  refine ⟨fun M_z r_z a_z b_z c_z v_z h_z h1 h2 => uu M_z r_z c_z v_z h_z (fun q_z => ?_), fun M_z r_z j_z v_z h_z h1 => uu M_z r_z j_z v_z h_z (fun q_z => ?_), fun M_z r_z j_z v_z h_z h1 _ => uu M_z r_z j_z v_z h_z (fun q_z => ?_), fun M_z a_z b_z i_z j_z n_z h_z h1 => ?_, fun M_z M' e1_z e2_z _ h_z => ?_, fun M_z r_z a_z c_z v_z h_z h1 h2 => h_z⟩
  · have e_z := ko M_z r_z h_z q_z.1
    rw [h1] at e_z
    have e1_z : Nat.beq (a_z + 1) k0 = true := by
      rw [e_z]
      exact Nat.beq_refl _
    have e2_z : F.contains c_z = true := List.contains_iff_mem.mpr q_z.2
    unfold pfOk at h2
    rw [e1_z, e2_z] at h2
    exact absurd h2 (by simp)
  · have e_z := ko M_z r_z h_z q_z.1
    omega
  · have e_z := ko M_z r_z h_z q_z.1
    omega
  · obtain ⟨h0, h2, h3⟩ := h_z
    refine ⟨h0, h2, fun f_z hf => ?_⟩
    have : o ≠ a_z := fun q_z => by
      rw [← q_z, h0, h2] at h1
      omega
    rw [rCI_ne this]
    exact h3 f_z hf
  · exact ⟨e1_z.trans h_z.1, h_z.2.1, fun f_z hf => by rw [e2_z]; exact h_z.2.2 f_z hf⟩
/-- a_z row of truths -/
theorem stab_T {o k0 : Nat} {F : List Int} {M0 : Mem} (ho : gK M0 o = 102) : Stab k0 F (fun M_z => gK M_z = gK M0 ∧ ∀ k_z, isT (gI M_z o k_z)) := by
  refine ⟨fun M_z r_z a_z b_z c_z v_z h_z h1 h2 => ⟨h_z.1, fun k_z => ?_⟩, fun M_z r_z j_z v_z h_z h1 => ⟨h_z.1, fun k_z => ?_⟩, fun M_z r_z j_z v_z h_z h1 h2 => ⟨h_z.1, fun k_z => ?_⟩, fun M_z a_z b_z i_z j_z n_z h_z h1 => ⟨h_z.1, fun k_z => ?_⟩, fun M_z M' e1_z e2_z _ h_z => ⟨e1_z.trans h_z.1, fun k_z => by rw [e2_z]; exact h_z.2 k_z⟩, fun M_z r_z a_z c_z v_z h_z _ _ => h_z⟩
  · have : o ≠ r_z := fun q_z => by
      unfold pfOk at h2
      rw [Bool.and_eq_true, Bool.and_eq_true] at h2
      have h3 := Nat.le_of_ble_eq_true h2.1.2
      rw [← q_z, h_z.1, ho] at h1
      omega
    rw [rI_ne this]
    exact h_z.2 k_z
  · have : o ≠ r_z := fun q_z => by
      rw [← q_z, h_z.1, ho] at h1
      omega
    rw [rI_ne this]
    exact h_z.2 k_z
  · rw [gI_uI]
    by_cases q_z : o = r_z ∧ k_z = j_z
    · rw [if_pos q_z]
      exact h2
    · rw [if_neg q_z]
      exact h_z.2 k_z
  · have : o ≠ a_z := fun q_z => by
      rw [← q_z, h_z.1, ho] at h1
      omega
    rw [rCI_ne this]
    exact h_z.2 k_z
/-- references, but the programs of frames -/
theorem stab_R {k0 : Nat} {F : List Int} {M0 : Mem} : Stab k0 F (fun M_z => gK M_z = gK M0 ∧ ∀ (a_z : Nat) (j_z : Int), ¬ (gK M0 a_z = 8 ∧ j_z = 3) → gR M_z a_z j_z = gR M0 a_z j_z) := by
  refine ⟨fun M_z r_z a_z b_z c_z v_z h_z _ _ => h_z, fun M_z r_z j_z v_z h_z _ => h_z, fun M_z r_z j_z v_z h_z _ _ => h_z, fun M_z a_z b_z i_z j_z n_z h_z _ => h_z, fun M_z M' e1_z _ e3_z h_z => ⟨e1_z.trans h_z.1, fun a_z j_z n0_z => by rw [e3_z]; exact h_z.2 a_z j_z n0_z⟩, fun M_z r_z a_z c_z v_z h_z h1 h2 => ⟨h_z.1, fun b_z j_z n0_z => ?_⟩⟩
  unfold pfOk at h2
  rw [Bool.and_eq_true, Bool.and_eq_true] at h2
  have h3 := h2.2
  have hc_z : a_z = 7 ∧ c_z = 3 := by
    have : (Nat.beq a_z 7 && c_z == 3) = true := h3
    rw [Bool.and_eq_true] at this
    exact ⟨Nat.eq_of_beq_eq_true this.1, by simpa using this.2⟩
  rw [hc_z.2]
  by_cases e_z : b_z = r_z
  · have k8_z : gK M0 b_z = 8 := by
      rw [← h_z.1, e_z, h1, hc_z.1]
    rw [e_z, rR_nk (fun y_z => n0_z ⟨k8_z, y_z⟩), ← e_z]
    exact h_z.2 b_z j_z n0_z
  · rw [rR_ne e_z]
    exact h_z.2 b_z j_z n0_z
section IW
variable {k0 : Nat} {F : List Int} {I : Mem → Prop}
theorem wcall_inv {a_z b_z : Nat} {c_z : Int} {st_z : List AV} {M_z : Mem} {kn_z kn' : List AV → Mem → Prop} {kc_z kc' : Nat → List AV → Mem → (Option AV → Mem → Prop) → Prop} (hI : I M_z) (hn : ∀ s_z m_z, I m_z → kn_z s_z m_z → kn' s_z m_z) (hc_z : ∀ as_z m_z Q_z Q'_z, I m_z → (∀ r_z m_z, I m_z → Q_z r_z m_z → Q'_z r_z m_z) → kc_z a_z as_z m_z Q_z → kc' a_z as_z m_z Q'_z) : wcall a_z b_z c_z st_z M_z kn_z kc_z → wcall a_z b_z c_z st_z M_z kn' kc' := by
  unfold wcall
  cases popn (b_z % 1000) st_z [] with
  | none => exact fun h_z => h_z.elim
  | some p_z =>
    obtain ⟨as_z, st'⟩ := p_z
    dsimp only
    cases cat8 st' && Nat.beq ((as_z.map catv).sum) (b_z / 1000) with
    | false => exact fun h_z => h_z.elim
    | true =>
      dsimp only
      have k_z : (match as_z with
        | .inr (.inr (.inl r_z)) :: _ => gK M_z r_z = c_z.toNat ∧ kc_z a_z as_z M_z (fun r_z M' => kn_z (r_z.toList ++ st') M')
        | _ => False) → (match as_z with
        | .inr (.inr (.inl r_z)) :: _ => gK M_z r_z = c_z.toNat ∧ kc' a_z as_z M_z (fun r_z M' => kn' (r_z.toList ++ st') M')
        | _ => False) := by
        rcases as_z with _ | ⟨v_z, as_z⟩
        · exact fun h_z => h_z
        · rcases v_z with v_z | v_z | v_z | v_z
          · exact fun h_z => h_z
          · exact fun h_z => h_z
          · exact fun h_z => ⟨h_z.1, hc_z _ _ _ _ hI (fun r_z m_z hm_z q_z => hn _ _ hm_z q_z) h_z.2⟩
          · exact fun h_z => h_z
      rcases c_z with (_ | n_z) | n_z
      · exact fun h_z => hc_z _ _ _ _ hI (fun r_z m_z hm_z q_z => hn _ _ hm_z q_z) h_z
      · exact k_z
      · exact k_z
theorem wspec_inv {c_z : Int} {st_z : List AV} {M_z : Mem} {kn_z kn' : List AV → Mem → Prop} (hS_z : Stab k0 F I) (hI : I M_z) (hn : ∀ s_z m_z, I m_z → kn_z s_z m_z → kn' s_z m_z) (h_z : wspec c_z st_z M_z kn_z) : wspec c_z st_z M_z kn' := by
  unfold wspec at h_z ⊢
  split at h_z
  · split at h_z
    · split at h_z
      · exact ⟨h_z.1, hn _ _ hI h_z.2⟩
      · exact h_z.elim
    · exact h_z.elim
  · split at h_z
    · split at h_z
      · obtain ⟨h1, h2, h3, h4, h5, h6, h7⟩ := h_z
        refine ⟨h1, h2, h3, h4, h5, h6, ?_⟩
        rcases h7 with h7 | h7
        · exact Or.inl ⟨h7.1, h7.2.1, hn _ _ (hS_z.2.2.2.1 _ _ _ _ _ _ hI h7.2.1) h7.2.2⟩
        · exact Or.inr ⟨h7.1, h7.2.1, hn _ _ (hS_z.2.2.2.2.1 M_z _ rfl rfl rfl hI) h7.2.2⟩
      · exact h_z.elim
    · exact h_z.elim
theorem swT_invF {K_z K' : Nat → Prop} (h_z : ∀ t_z, K_z t_z → K' t_z) {pc : Nat} {x_z : Int} (os : List Int) (i_z : Int) (q_z : swT K_z pc x_z i_z os) : swT K' pc x_z i_z os := swT_mono h_z os i_z q_z
set_option maxHeartbeats 16000000 in
theorem wpi_inv {G_z : Env0} {A_z : List Nat} {P0_z : Nat → Nat} {p0_z e0_z : Nat} {i_z : Instr} {pc a_z b_z : Nat} {c_z : Int} {ls st_z : List AV} {M_z : Mem} {kn_z kn' : List AV → List AV → Mem → Prop} {kj kj' : Nat → List AV → List AV → Mem → Prop} {kc_z kc' : Nat → List AV → Mem → (Option AV → Mem → Prop) → Prop} {q_z q' : Option AV → Mem → Prop}
    (hS_z : Stab k0 F I) (hw : rowF k0 F A_z P0_z p0_z (pc, i_z, e0_z, a_z, b_z, c_z) = true) (hI : I M_z) (hn : ∀ l s_z m_z, I m_z → kn_z l s_z m_z → kn' l s_z m_z) (hj : ∀ t_z l s_z m_z, p0_z ≤ t_z → I m_z → kj t_z l s_z m_z → kj' t_z l s_z m_z) (hc_z : ∀ as_z m_z Q_z Q'_z, (A_z.contains a_z && Nat.beq (P0_z a_z) 0) = true → I m_z → (∀ r_z m_z, I m_z → Q_z r_z m_z → Q'_z r_z m_z) → kc_z a_z as_z m_z Q_z → kc' a_z as_z m_z Q'_z) (hq : ∀ r_z m_z, I m_z → q_z r_z m_z → q' r_z m_z) (h_z : wpi G_z i_z pc a_z b_z c_z ls st_z M_z kn_z kj kc_z q_z) : wpi G_z i_z pc a_z b_z c_z ls st_z M_z kn' kj' kc' q' := by
  cases i_z
  case if_acmp cnd off =>
    cases cnd <;> simp only [wpi] at h_z ⊢ <;> (repeat' (split at h_z)) <;>
      first
      | exact h_z.elim
      | exact ⟨fun e_z => hj _ _ _ _ (Nat.le_of_ble_eq_true hw) hI (h_z.1 e_z), fun e_z => hn _ _ _ hI (h_z.2 e_z)⟩
  all_goals
   simp only [wpi] at h_z ⊢ <;> (repeat' (split at h_z)) <;>
    first
    | exact h_z.elim
    | exact hn _ _ _ hI h_z
    | exact hj _ _ _ _ (Nat.le_of_ble_eq_true hw) hI h_z
    | exact hq _ _ hI h_z
    | exact ldI_mono (fun _ => hn _ _ _ hI) h_z
    | exact ldL_mono (fun _ => hn _ _ _ hI) h_z
    | exact ldR_mono (fun _ => hn _ _ _ hI) h_z
    | exact ⟨h_z.1, hn _ _ _ hI h_z.2⟩
    | exact ⟨h_z.1, hq _ _ hI h_z.2⟩
    | exact ⟨h_z.1, hn _ _ _ (hS_z.1 _ _ _ _ _ _ hI h_z.1 hw) h_z.2⟩
    | exact ⟨h_z.1, h_z.2.1, hn _ _ _ (hS_z.1 _ _ _ _ _ _ hI h_z.1 hw) h_z.2.2⟩
    | exact ⟨h_z.1, hn _ _ _ (hS_z.2.2.2.2.2 _ _ _ _ _ hI h_z.1 hw) h_z.2⟩
    | exact ⟨h_z.1, h_z.2.1, hn _ _ _ hI h_z.2.2⟩
    | exact ⟨h_z.1, h_z.2.1, h_z.2.2.1, hn _ _ _ hI h_z.2.2.2⟩
    | exact ⟨h_z.1, h_z.2.1, h_z.2.2.1, hn _ _ _ (hS_z.2.1 _ _ _ _ hI h_z.1) h_z.2.2.2⟩
    | exact ⟨h_z.1, h_z.2.1, h_z.2.2.1, hn _ _ _ (hS_z.2.2.2.2.1 M_z _ rfl rfl rfl hI) h_z.2.2.2⟩
    | exact ⟨h_z.1, hn _ _ _ (hS_z.2.2.2.2.1 M_z _ rfl rfl rfl hI) h_z.2⟩
    | exact ⟨h_z.1, h_z.2.1, h_z.2.2.1, h_z.2.2.2.1, hn _ _ _ hI h_z.2.2.2.2⟩
    | exact ⟨h_z.1, h_z.2.1, h_z.2.2.1, h_z.2.2.2.1, hn _ _ _ (hS_z.2.2.1 _ _ _ _ hI h_z.1 h_z.2.2.2.1) h_z.2.2.2.2⟩
    | exact ⟨h_z.1, h_z.2.1, h_z.2.2.1, h_z.2.2.2.1, hn _ _ _ (hS_z.2.2.2.2.1 M_z _ rfl rfl rfl hI) h_z.2.2.2.2⟩
    | exact ⟨fun e_z => hj _ _ _ _ (Nat.le_of_ble_eq_true hw) hI (h_z.1 e_z), fun e_z => hn _ _ _ hI (h_z.2 e_z)⟩
    | exact ⟨fun e_z => hj _ _ _ _ (by rw [Nat.eq_of_beq_eq_true hw]; exact Nat.zero_le _) hI (h_z.1 e_z), swT_mono (fun _ => hj _ _ _ _ (by rw [Nat.eq_of_beq_eq_true hw]; exact Nat.zero_le _) hI) _ _ h_z.2⟩
    | exact swL_mono (fun _ => hj _ _ _ _ (by rw [Nat.eq_of_beq_eq_true hw]; exact Nat.zero_le _) hI) _ h_z
    | exact wcall_inv hI (fun _ _ => hn _ _ _) (fun as_z m_z Q_z Q'_z => hc_z as_z m_z Q_z Q'_z hw) h_z
    | exact wspec_inv hS_z hI (fun _ _ => hn _ _ _) h_z
    | exact absurd hw (by decide)
    | contradiction
    | exact ⟨h_z.1, hn _ _ _ (by assumption) h_z.2⟩
end IW
theorem At.keep {G_z : Env0} {k0 : Nat} {F : List Int} {I : Mem → Prop} {A_z : List Nat} {P0_z : Nat → Nat} (hS_z : Stab k0 F I) (hA : ∀ j_z, A_z.contains j_z = true → chkF k0 F A_z P0_z (P0_z j_z) (tab j_z).2 = true) {j_z pc : Nat} {ls st_z : List AV} {M_z : Mem} {Q_z : Option AV → Mem → Prop} (hj : A_z.contains j_z = true) (hp : P0_z j_z ≤ pc) (ho : I M_z) (h_z : At G_z j_z pc ls st_z M_z Q_z) : At G_z j_z pc ls st_z M_z (fun r_z M' => Q_z r_z M' ∧ I M') := by
  have key_z := At.ind (G := G_z) (X := fun j_z pc ls st_z M_z Q_z => ∀ (Q'_z : Option AV → Mem → Prop), A_z.contains j_z = true → P0_z j_z ≤ pc → I M_z → (∀ r_z M', I M' → Q_z r_z M' → Q'_z r_z M') → At G_z j_z pc ls st_z M_z Q'_z) (fun j_z pc ls st_z M_z Q_z q_z Q'_z hj hp hI hQ => ?_) h_z (fun r_z M' => Q_z r_z M' ∧ I M') hj hp ho (fun r_z M' hI hq => ⟨hq, hI⟩)
  · exact key_z
  · refine At.fold ?_
    unfold stepX at q_z ⊢
    split at q_z
    · exact q_z.elim
    · rename_i p_z i_z len_z a_z b_z c_z L_z e_z
      obtain ⟨hr, hl⟩ := chkF_at _ _ _ _ (hA j_z hj) e_z hp
      have ep := (sfx_mem _ _ _ _ e_z).2.2
      refine wpi_inv (e0_z := len_z) hS_z hr hI (fun l s_z m_z hm_z k_z => k_z Q'_z hj hl hm_z hQ) (fun t_z l s_z m_z ht hm_z k_z => k_z Q'_z hj ht hm_z hQ) (fun as_z m_z Q2_z Q2' hw hm_z h2 k_z => ?_) (fun r_z m_z hm_z k_z => hQ r_z m_z hm_z k_z) q_z
      rw [Bool.and_eq_true] at hw
      exact k_z Q2' hw.1 (by rw [Nat.eq_of_beq_eq_true hw.2]; exact Nat.zero_le _) hm_z h2
