/-! THE START, part 8: what the start's memory holds. Own work. -/
/-- the start, as the pure part needs it: B_z the script's place, wd the words, bs their bytes -/
def Ini0 (G_z : Env0) (M_z : Mem) (B_z L_z : Nat) (xs : Nat → Int32) (wd bs : Nat → Nat) : Prop :=
  gz M_z = G_z.1 ∧ gs M_z = 0 ∧ (B_z ≤ G_z.1 ∧ gK M_z B_z = 104 ∧ gN M_z B_z = (L_z : Int) ∧ ∀ k_z : Nat, k_z < L_z → gI M_z B_z (k_z : Int) = (xs k_z).toInt) ∧
  (gK M_z (G_z.2 0) = 250 ∧ gN M_z (G_z.2 0) = 23 ∧ ∀ k_z : Nat, k_z < 23 → gR M_z (G_z.2 0) (k_z : Int) = G_z.2 (3 + k_z)) ∧
  (gK M_z (G_z.2 1) = 104 ∧ gN M_z (G_z.2 1) = 23 ∧ ∀ k_z : Nat, k_z < 23 → gI M_z (G_z.2 1) (k_z : Int) = ((smapL.getD k_z 0 : Nat) : Int)) ∧
  (∀ i_z : Nat, i_z < 23 → gK M_z (G_z.2 (3 + i_z)) = 41 ∧ gR M_z (G_z.2 (3 + i_z)) 1 = wd i_z ∧ ∀ k_z : Nat, k_z ∈ [0, 2, 3, 4, 5] → gI M_z (G_z.2 (3 + i_z)) (k_z : Int) = (((opV i_z).getD (vix k_z) 0 : Nat) : Int)) ∧
  (∀ i_z : Nat, i_z < 23 → gK M_z (wd i_z) = 42 ∧ gI M_z (wd i_z) 1 = 0 ∧ gR M_z (wd i_z) 0 = bs i_z) ∧
  (∀ i_z : Nat, i_z < 23 → gK M_z (bs i_z) = 105 ∧ gN M_z (bs i_z) = ((opB i_z).length : Int) ∧ ∀ k_z : Nat, k_z < (opB i_z).length → gI M_z (bs i_z) (k_z : Int) = (((opB i_z).getD k_z 0 : Nat) : Int)) ∧
  ∀ r_z : Nat, G_z.1 < r_z → gK M_z r_z = 0
section HS
variable {s : State} {b L : Nat} {xs : Nat → Int32}
theorem n32_of {n_z : Nat} (h_z : n_z < 2147483648) : (Int32.ofNat n_z).toInt = (n_z : Int) := by
  have h1 := i_rt (x := (n_z : Int)) ⟨by omega, by omega⟩
  rw [← h1]
  rfl
theorem opV_small : ∀ i_z, i_z < 23 → ∀ k_z, k_z < 5 → (opV i_z).getD k_z 0 < 100 := by decide +kernel
theorem opB_small : ∀ i_z, i_z < 23 → (opB i_z).length < 10 ∧ ∀ k_z, k_z < 10 → (opB i_z).getD k_z 0 < 200 := by decide +kernel
theorem smap_small : ∀ k_z, k_z < 23 → smapL.getD k_z 0 < 100 := by decide +kernel
theorem ini_mem (hX : va_X b L xs s s.heap) (hs : ∀ w_z ∈ nwN, w_z.before #[Value.ref b] s = true) : Ini0 (envS s b) (memS s b) (b + 1) L xs (wdS s b) (byS s b) := by
  refine ⟨rfl, rfl, ?_, ?_, ?_, fun i_z hi_z => ?_, fun i_z hi_z => ?_, fun i_z hi_z => ?_, fun r_z hr => ?_⟩
  · obtain ⟨cl_z, g1, g2, g3_z, g4, g5_z⟩ := hX
    have hk : kdS s b (b + 1) = 104 := kd_b
    refine ⟨(Array.getElem?_eq_some_iff.mp g1).1, hk, by rw [m_len g1, g4], fun k_z hk2 => ?_⟩
    exact m_int (rd_a (by rw [hk]; decide) g1 (g5_z k_z hk2))
  · obtain ⟨a_z, cl_z, g1, g2, g3_z, g4, g5_z, g6, g7⟩ := f_ops hs
    have hk := kd_ops hX hs
    have e1_z := sv_of g1
    show kdS s b (svS s b 0) = 250 ∧ gN (memS s b) (svS s b 0) = 23 ∧ ∀ k_z : Nat, k_z < 23 → gR (memS s b) (svS s b 0) (k_z : Int) = svS s b (3 + k_z)
    rw [e1_z] at hk ⊢
    refine ⟨hk, by rw [m_len g2, g5_z]; rfl, fun k_z hk2 => ?_⟩
    obtain ⟨w_z, q1_z, q2_z⟩ := g7 k_z hk2
    rw [m_ref (rd_a (by rw [hk]; decide) g2 q1_z), sv_of q2_z]
  · obtain ⟨a_z, cl_z, g1, g2, g3_z, g4, g5_z, g6⟩ := f_sw hs
    have hk := kd_sw hX hs
    have e1_z := sv_of g1
    show kdS s b (svS s b 1) = 104 ∧ gN (memS s b) (svS s b 1) = 23 ∧ ∀ k_z : Nat, k_z < 23 → gI (memS s b) (svS s b 1) (k_z : Int) = ((smapL.getD k_z 0 : Nat) : Int)
    rw [e1_z] at hk ⊢
    refine ⟨hk, by rw [m_len g2, g5_z]; rfl, fun k_z hk2 => ?_⟩
    rw [m_int (rd_a (by rw [hk]; decide) g2 (g6 k_z hk2)), n32_of (by have := smap_small k_z hk2; omega)]
  · obtain ⟨a_z, cl_z, g1, g2, g3_z, g4⟩ := f_op hs i_z hi_z
    have hk := kd_op hX hs i_z hi_z
    have e1_z := sv_of g1
    show kdS s b (svS s b (3 + i_z)) = 41 ∧ gR (memS s b) (svS s b (3 + i_z)) 1 = wdS s b i_z ∧ ∀ k_z : Nat, k_z ∈ [0, 2, 3, 4, 5] → gI (memS s b) (svS s b (3 + i_z)) (k_z : Int) = (((opV i_z).getD (vix k_z) 0 : Nat) : Int)
    rw [e1_z] at hk ⊢
    refine ⟨hk, ?_, fun k_z hk2 => ?_⟩
    · obtain ⟨w_z, o1, o2⟩ := f_opw hs i_z hi_z
      obtain ⟨a2, cf_z, kf, fi, fd_z, cl2, u1_z, u2_z, u3, u4_z, u5, u6, u7⟩ := t_fld o1
      rw [g1] at u1_z
      cases u1_z
      rw [wd_of o2]
      exact @m_ref s b a_z 1 _ (rd_o (ci := 40) hk (Or.inl rfl) u2_z u4_z u7)
    · obtain ⟨a2, cf_z, kf, fi, fd_z, cl2, u1_z, u2_z, u3, u4_z, u5, u6, u7⟩ := t_fld (f_opn hs i_z hi_z k_z hk2)
      rw [g1] at u1_z
      cases u1_z
      have hv : vix k_z < 5 := by
        have : ∀ k_z ∈ [0, 2, 3, 4, 5], vix k_z < 5 := by decide
        exact this k_z hk2
      rw [m_int (rd_o (ci := 40) hk (Or.inl rfl) u2_z u4_z u7), n32_of (by have := opV_small i_z hi_z _ hv; omega)]
  · obtain ⟨a_z, cl_z, g1, g2, g3_z, g4⟩ := f_wd hs i_z hi_z
    have hk := kd_wd hX hs i_z hi_z
    have e1_z := wd_of g1
    show kdS s b (wdS s b i_z) = 42 ∧ gI (memS s b) (wdS s b i_z) 1 = 0 ∧ gR (memS s b) (wdS s b i_z) 0 = byS s b i_z
    rw [e1_z] at hk ⊢
    refine ⟨hk, ?_, ?_⟩
    · obtain ⟨a2, cf_z, kf, fi, fd_z, cl2, u1_z, u2_z, u3, u4_z, u5, u6, u7⟩ := t_fld (f_wdc hs i_z hi_z)
      rw [g1] at u1_z
      cases u1_z
      have h9 := @m_int s b a_z 1 _ (rd_o (ci := 41) hk (Or.inr rfl) u2_z u4_z u7)
      exact h9
    · obtain ⟨w_z, clb, o1, -⟩ := f_by hs i_z hi_z
      obtain ⟨a2, cf_z, kf, fi, fd_z, cl2, u1_z, u2_z, u3, u4_z, u5, u6, u7⟩ := t_fld o1
      rw [g1] at u1_z
      cases u1_z
      have u8 : s.fieldFound? (rT 41 0).1 (rT 41 0).2.1 (rT 41 0).2.2 = some (cf_z, kf, fi, fd_z) := u2_z
      rw [by_of o1]
      exact @m_ref s b a_z 0 _ (rd_o (ci := 41) hk (Or.inr rfl) u8 u4_z u7)
  · obtain ⟨a_z, cl_z, g1, g2, g3_z, g4, g5_z, g6⟩ := f_by hs i_z hi_z
    have hk := kd_by hX hs i_z hi_z
    have e1_z := by_of g1
    show kdS s b (byS s b i_z) = 105 ∧ gN (memS s b) (byS s b i_z) = ((opB i_z).length : Int) ∧ ∀ k_z : Nat, k_z < (opB i_z).length → gI (memS s b) (byS s b i_z) (k_z : Int) = (((opB i_z).getD k_z 0 : Nat) : Int)
    rw [e1_z] at hk ⊢
    refine ⟨hk, by rw [m_len g2, g5_z], fun k_z hk2 => ?_⟩
    have hb_z := opB_small i_z hi_z
    have hc_z := hb_z.2 k_z (by omega)
    rw [m_int (rd_a (by rw [hk]; decide) g2 (g6 k_z hk2)), n32_of (by omega)]
  · have hr2 : s.heap.size < r_z := hr
    have hsz : ∀ a_z : Nat, ∀ cl_z : Cell, s.heap[a_z]? = some cl_z → a_z < s.heap.size := fun a_z cl_z h_z => (Array.getElem?_eq_some_iff.mp h_z).1
    have n1_z : ¬ r_z = b + 1 := fun q_z => by
      obtain ⟨cl_z, g1, -⟩ := hX
      have := hsz _ _ g1
      omega
    have n2_z : ¬ r_z = svS s b 0 := fun q_z => by
      obtain ⟨a_z, cl_z, g1, g2, -⟩ := f_ops hs
      have e1_z := sv_of g1
      have := hsz _ _ g2
      omega
    have n3_z : ¬ r_z = svS s b 1 := fun q_z => by
      obtain ⟨a_z, cl_z, g1, g2, -⟩ := f_sw hs
      have e1_z := sv_of g1
      have := hsz _ _ g2
      omega
    have n4_z : ¬ (List.range 23).any (fun i_z => r_z == svS s b (3 + i_z)) = true := fun q_z => by
      obtain ⟨i_z, hi_z, he⟩ := any_o (fun i_z => svS s b (3 + i_z)) q_z
      have he : r_z = svS s b (3 + i_z) := he
      obtain ⟨a_z, cl_z, g1, g2, -⟩ := f_op hs i_z hi_z
      have e1_z := sv_of g1
      have := hsz _ _ g2
      omega
    have n5_z : ¬ (List.range 23).any (fun i_z => r_z == wdS s b i_z) = true := fun q_z => by
      obtain ⟨i_z, hi_z, he⟩ := any_o (fun i_z => wdS s b i_z) q_z
      have he : r_z = wdS s b i_z := he
      obtain ⟨a_z, cl_z, g1, g2, -⟩ := f_wd hs i_z hi_z
      have e1_z := wd_of g1
      have := hsz _ _ g2
      omega
    have n6_z : ¬ (List.range 23).any (fun i_z => r_z == byS s b i_z) = true := fun q_z => by
      obtain ⟨i_z, hi_z, he⟩ := any_o (fun i_z => byS s b i_z) q_z
      have he : r_z = byS s b i_z := he
      obtain ⟨a_z, cl_z, g1, g2, -⟩ := f_by hs i_z hi_z
      have e1_z := by_of g1
      have := hsz _ _ g2
      omega
    show kdS s b r_z = 0
    unfold kdS
    rw [if_neg (by omega), if_neg n1_z, if_neg n2_z, if_neg n3_z, if_neg n4_z, if_neg n5_z, if_neg n6_z]
end HS
