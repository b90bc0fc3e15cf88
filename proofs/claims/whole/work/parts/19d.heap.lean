/-! THE PURE PART, part 19: a heap from the place c on, cell by cell. Own work. -/
/-- a cell: kind, length, references (as distances from c, 0: null), whole numbers -/
abbrev Sp : Type := Nat × Int × List (Int × Nat) × List (Int × Int)
def lkR : List (Int × Nat) → Int → Nat
  | [], _ => 0
  | p_z :: l, f_z => if f_z = p_z.1 then p_z.2 else lkR l f_z
def lkI : List (Int × Int) → Int → Int
  | [], _ => 0
  | p_z :: l, f_z => if f_z = p_z.1 then p_z.2 else lkI l f_z
def sp (l : List Sp) (i_z : Nat) : Sp := l.getD i_z (0, 0, [], [])
def adr (c o : Nat) : Nat := if o = 0 then 0 else c + o
def stR (l : List Sp) (i_z : Nat) (f_z : Int) (o : Nat) : List Sp := l.set i_z ((sp l i_z).1, (sp l i_z).2.1, (f_z, o) :: (sp l i_z).2.2.1, (sp l i_z).2.2.2)
def stI (l : List Sp) (i_z : Nat) (f_z v_z : Int) : List Sp := l.set i_z ((sp l i_z).1, (sp l i_z).2.1, (sp l i_z).2.2.1, (f_z, v_z) :: (sp l i_z).2.2.2)
def mkR : Nat → List (Int × Nat × Int) → List (Int × Nat)
  | _, [] => []
  | n_z, p_z :: l => (p_z.1, n_z) :: mkR (n_z + 1) l
/-- the new rows of the object j_z -/
def alL (l : List Sp) (j_z : Nat) (al_z : List (Int × Nat × Int)) : List Sp := l.set j_z ((sp l j_z).1, (sp l j_z).2.1, mkR (j_z + 1) al_z ++ (sp l j_z).2.2.1, (sp l j_z).2.2.2) ++ al_z.map (fun p_z => (p_z.2.1, p_z.2.2, [], []))
theorem sp_set {l : List Sp} {i_z j_z : Nat} {x_z : Sp} (hi_z : i_z < l.length) : sp (l.set i_z x_z) j_z = if j_z = i_z then x_z else sp l j_z := by
  unfold sp
  rw [List.getD_eq_getElem?_getD, List.getD_eq_getElem?_getD, List.getElem?_set]
  by_cases c : i_z = j_z
  · subst c
    rw [if_pos rfl, if_pos hi_z, if_pos rfl]
    rfl
  · rw [if_neg c, if_neg (fun q_z => c q_z.symm)]
theorem sp_left {l k_z : List Sp} {i_z : Nat} (h_z : i_z < l.length) : sp (l ++ k_z) i_z = sp l i_z := by
  unfold sp
  rw [List.getD_eq_getElem?_getD, List.getD_eq_getElem?_getD, List.getElem?_append_left h_z]
theorem sp_right {l k_z : List Sp} {i_z : Nat} : sp (l ++ k_z) (l.length + i_z) = sp k_z i_z := by
  unfold sp
  rw [List.getD_eq_getElem?_getD, List.getD_eq_getElem?_getD, List.getElem?_append_right (by omega), Nat.add_sub_cancel_left]
theorem lk_mk (old_z : List (Int × Nat)) (f_z : Int) : ∀ (al_z : List (Int × Nat × Int)) (n_z : Nat), ((∀ p_z, p_z ∈ al_z → p_z.1 ≠ f_z) ∧ lkR (mkR n_z al_z ++ old_z) f_z = lkR old_z f_z) ∨ ∃ (i_z : Nat) (p_z : Int × Nat × Int), al_z[i_z]? = some p_z ∧ p_z.1 = f_z ∧ lkR (mkR n_z al_z ++ old_z) f_z = n_z + i_z
  | [], n_z => Or.inl ⟨fun p_z hp => absurd hp (by simp), rfl⟩
  | q_z :: al_z, n_z => by
    have e_z : lkR (mkR n_z (q_z :: al_z) ++ old_z) f_z = if f_z = q_z.1 then n_z else lkR (mkR (n_z + 1) al_z ++ old_z) f_z := rfl
    rw [e_z]
    by_cases c : f_z = q_z.1
    · rw [if_pos c]
      exact Or.inr ⟨0, q_z, rfl, c.symm, rfl⟩
    · rw [if_neg c]
      rcases lk_mk old_z f_z al_z (n_z + 1) with ⟨h1, h2⟩ | ⟨i_z, p_z, h1, h2, h3⟩
      · refine Or.inl ⟨fun p_z hp => ?_, h2⟩
        rcases List.mem_cons.mp hp with y_z | y_z
        · rw [y_z]
          exact fun z_z => c z_z.symm
        · exact h1 p_z y_z
      · exact Or.inr ⟨i_z + 1, p_z, h1, h2, by rw [h3]; omega⟩
/-- the heap from c on is what l says -/
def Hp (c : Nat) (l : List Sp) (s : Nat) (M0 M : Mem) : Prop :=
  gz M + 1 = c + l.length ∧ gs M = s ∧ (∀ a_z, a_z < c → gK M a_z = gK M0 a_z ∧ gN M a_z = gN M0 a_z ∧ gI M a_z = gI M0 a_z ∧ gR M a_z = gR M0 a_z) ∧
  ∀ i_z, i_z < l.length → gK M (c + i_z) = (sp l i_z).1 ∧ gN M (c + i_z) = (sp l i_z).2.1 ∧ (∀ f_z, gR M (c + i_z) f_z = adr c (lkR (sp l i_z).2.2.1 f_z)) ∧ ∀ k_z, gI M (c + i_z) k_z = lkI (sp l i_z).2.2.2 k_z
section HE
variable {G : Env0} {M0 M : Mem} {c s : Nat} {l : List Sp}
theorem Hp.new {k_z ns : Nat} {n_z : Int} (h_z : Hp c l s M0 M) : Hp c (l ++ [(k_z, n_z, [], [])]) (s + ns) M0 (uN M k_z n_z ns) := by
  obtain ⟨h1, h2, h3, h4⟩ := h_z
  refine ⟨?_, ?_, fun a_z ha_z => ?_, fun i_z hi_z => ?_⟩
  · show gz M + 1 + 1 = _
    rw [List.length_append, h1]
    rfl
  · show gs M + ns = _
    rw [h2]
  · have q_z : a_z ≠ gz M + 1 := by omega
    obtain ⟨a1_z, a2, a3, a4⟩ := h3 a_z ha_z
    exact ⟨(nK_ne q_z).trans a1_z, (nN_ne q_z).trans a2, (nI_ne q_z).trans a3, (nR_ne q_z).trans a4⟩
  · rw [List.length_append] at hi_z
    have hi_z : i_z < l.length + 1 := hi_z
    by_cases ci : i_z < l.length
    · have q_z : c + i_z ≠ gz M + 1 := by omega
      obtain ⟨a1_z, a2, a3, a4⟩ := h4 i_z ci
      rw [sp_left ci]
      exact ⟨(nK_ne q_z).trans a1_z, (nN_ne q_z).trans a2, fun f_z => by rw [nR_ne q_z]; exact a3 f_z, fun k_z => by rw [nI_ne q_z]; exact a4 k_z⟩
    · have e_z : i_z = l.length + 0 := by omega
      have q_z : c + i_z = gz M + 1 := by omega
      rw [e_z, sp_right, ← e_z]
      exact ⟨nK_at q_z, nN_at q_z, fun f_z => nR_at q_z, fun k_z => nI_at q_z⟩
theorem Hp.setR {i_z a_z v_z o : Nat} {f_z : Int} (h_z : Hp c l s M0 M) (hi_z : i_z < l.length) (ha_z : a_z = c + i_z) (hv : v_z = c + o) (ho : o ≠ 0) : Hp c (stR l i_z f_z o) s M0 (uR M a_z f_z v_z) := by
  obtain ⟨h1, h2, h3, h4⟩ := h_z
  subst ha_z
  subst hv
  refine ⟨?_, h2, fun a_z ha_z => ?_, fun j_z hj => ?_⟩
  · unfold stR
    rw [List.length_set]
    exact h1
  · obtain ⟨a1_z, a2, a3, a4⟩ := h3 a_z ha_z
    exact ⟨a1_z, a2, a3, by rw [rR_ne (by omega)]; exact a4⟩
  · unfold stR at hj ⊢
    rw [List.length_set] at hj
    rw [sp_set hi_z]
    obtain ⟨a1_z, a2, a3, a4⟩ := h4 j_z hj
    by_cases cj : j_z = i_z
    · subst cj
      rw [if_pos rfl]
      refine ⟨a1_z, a2, fun g_z => ?_, a4⟩
      show gR (uR M (c + j_z) f_z (c + o)) (c + j_z) g_z = adr c (if g_z = f_z then o else lkR (sp l j_z).2.2.1 g_z)
      by_cases cg : g_z = f_z
      · rw [cg, if_pos rfl, rR_at]
        unfold adr
        rw [if_neg ho]
      · rw [if_neg cg, rR_nk cg]
        exact a3 g_z
    · rw [if_neg cj]
      exact ⟨a1_z, a2, fun g_z => by rw [rR_ne (by omega)]; exact a3 g_z, a4⟩
theorem Hp.setI {i_z a_z : Nat} {f_z v_z : Int} (h_z : Hp c l s M0 M) (hi_z : i_z < l.length) (ha_z : a_z = c + i_z) : Hp c (stI l i_z f_z v_z) s M0 (uI M a_z f_z v_z) := by
  obtain ⟨h1, h2, h3, h4⟩ := h_z
  subst ha_z
  refine ⟨?_, h2, fun a_z ha_z => ?_, fun j_z hj => ?_⟩
  · unfold stI
    rw [List.length_set]
    exact h1
  · obtain ⟨a1_z, a2, a3, a4⟩ := h3 a_z ha_z
    exact ⟨a1_z, a2, by rw [rI_ne (by omega)]; exact a3, a4⟩
  · unfold stI at hj ⊢
    rw [List.length_set] at hj
    rw [sp_set hi_z]
    obtain ⟨a1_z, a2, a3, a4⟩ := h4 j_z hj
    by_cases cj : j_z = i_z
    · subst cj
      rw [if_pos rfl]
      refine ⟨a1_z, a2, a3, fun g_z => ?_⟩
      show gI (uI M (c + j_z) f_z v_z) (c + j_z) g_z = if g_z = f_z then v_z else lkI (sp l j_z).2.2.2 g_z
      by_cases cg : g_z = f_z
      · rw [cg, if_pos rfl, rI_at]
      · rw [if_neg cg, rI_nk cg]
        exact a4 g_z
    · rw [if_neg cj]
      exact ⟨a1_z, a2, a3, fun g_z => by rw [rI_ne (by omega)]; exact a4 g_z⟩
theorem Hp.al {j_z : Nat} {al_z : List (Int × Nat × Int)} {M1_z : Mem} (h_z : Hp c l s M0 M) (hj : l.length = j_z + 1) (a_z : Al (c + j_z) al_z M M1_z) : Hp c (alL l j_z al_z) (s + szl al_z) M0 M1_z := by
  obtain ⟨h1, h2, h3, h4⟩ := h_z
  obtain ⟨b0, b1, b2, b3, b4, b5⟩ := a_z
  refine ⟨?_, ?_, fun x_z hx => ?_, fun i_z hi_z => ?_⟩
  · unfold alL
    rw [List.length_append, List.length_set, List.length_map]
    omega
  · rw [b2, h2]
  · obtain ⟨a1_z, a2, a3, a4⟩ := h3 x_z hx
    obtain ⟨c1_z, c2_z, c3_z, c4_z⟩ := b3 x_z (by omega)
    exact ⟨c1_z.trans a1_z, c2_z.trans a2, c3_z.trans a3, (c4_z (by omega)).trans a4⟩
  · unfold alL at hi_z ⊢
    rw [List.length_append, List.length_set, List.length_map] at hi_z
    by_cases ci : i_z < l.length
    · rw [sp_left (by rw [List.length_set]; exact ci), sp_set (by omega)]
      obtain ⟨a1_z, a2, a3, a4⟩ := h4 i_z ci
      obtain ⟨c1_z, c2_z, c3_z, c4_z⟩ := b3 (c + i_z) (by omega)
      by_cases cj : i_z = j_z
      · subst cj
        rw [if_pos rfl]
        refine ⟨c1_z.trans a1_z, c2_z.trans a2, fun f_z => ?_, fun k_z => by rw [c3_z]; exact a4 k_z⟩
        show gR M1_z (c + i_z) f_z = adr c (lkR (mkR (i_z + 1) al_z ++ (sp l i_z).2.2.1) f_z)
        rcases lk_mk (sp l i_z).2.2.1 f_z al_z (i_z + 1) with ⟨q1_z, q2_z⟩ | ⟨q_z, p_z, q1_z, q2_z, q3_z⟩
        · rw [q2_z, b4 f_z q1_z]
          exact a3 f_z
        · rw [q3_z, ← q2_z, (b5 q_z p_z q1_z).2.2.2.2]
          unfold adr
          rw [if_neg (by omega)]
          omega
      · rw [if_neg cj]
        exact ⟨c1_z.trans a1_z, c2_z.trans a2, fun f_z => by rw [c4_z (by omega)]; exact a3 f_z, fun k_z => by rw [c3_z]; exact a4 k_z⟩
    · obtain ⟨q_z, hq⟩ : ∃ q_z, i_z = l.length + q_z := ⟨i_z - l.length, by omega⟩
      have ql : q_z < al_z.length := by omega
      have e1_z : sp (l.set j_z ((sp l j_z).1, (sp l j_z).2.1, mkR (j_z + 1) al_z ++ (sp l j_z).2.2.1, (sp l j_z).2.2.2) ++ al_z.map (fun p_z => (p_z.2.1, p_z.2.2, [], []))) i_z = sp (al_z.map (fun p_z => (p_z.2.1, p_z.2.2, [], []))) q_z := by
        have := sp_right (l := l.set j_z ((sp l j_z).1, (sp l j_z).2.1, mkR (j_z + 1) al_z ++ (sp l j_z).2.2.1, (sp l j_z).2.2.2)) (k_z := al_z.map (fun p_z => (p_z.2.1, p_z.2.2, [], []))) (i_z := q_z)
        rw [List.length_set] at this
        rw [hq]
        exact this
      have hp : al_z[q_z]? = some al_z[q_z] := List.getElem?_eq_getElem ql
      have e2_z : sp (al_z.map (fun p_z => ((p_z.2.1, p_z.2.2, [], []) : Sp))) q_z = (al_z[q_z].2.1, al_z[q_z].2.2, [], []) := by
        unfold sp
        rw [List.getD_eq_getElem?_getD, List.getElem?_map, hp]
        rfl
      rw [e1_z, e2_z]
      obtain ⟨d1_z, d2_z, d3_z, d4_z, d5_z⟩ := b5 q_z _ hp
      have ea : c + i_z = c + j_z + 1 + q_z := by omega
      rw [ea]
      exact ⟨d1_z, d2_z, fun f_z => d4_z f_z, fun k_z => d3_z k_z⟩
theorem Hp.rm {n_z : Nat} (h_z : Hp c l s M0 M) (hc_z : c = G.1 + 1) (hl : l.length ≤ 300) (hs : s + n_z ≤ 100000) : roomOk G M n_z := by
  obtain ⟨h1, h2, h3, h4⟩ := h_z
  exact ⟨by omega, by omega⟩
theorem Hp.kd {i_z v_z a_z : Nat} (h_z : Hp c l s M0 M) (ha_z : a_z = c + i_z) (hi_z : i_z < l.length) (hv : (sp l i_z).1 = v_z) : gK M a_z = v_z := by
  rw [ha_z, ← hv]
  exact (h_z.2.2.2 i_z hi_z).1
theorem Hp.ln {i_z a_z : Nat} {v_z : Int} (h_z : Hp c l s M0 M) (ha_z : a_z = c + i_z) (hi_z : i_z < l.length) (hv : (sp l i_z).2.1 = v_z) : gN M a_z = v_z := by
  rw [ha_z, ← hv]
  exact (h_z.2.2.2 i_z hi_z).2.1
theorem Hp.rf {i_z a_z o : Nat} {f_z : Int} (h_z : Hp c l s M0 M) (ha_z : a_z = c + i_z) (hi_z : i_z < l.length) (hv : lkR (sp l i_z).2.2.1 f_z = o) (ho : o ≠ 0) : gR M a_z f_z = c + o := by
  rw [ha_z, (h_z.2.2.2 i_z hi_z).2.2.1 f_z, hv]
  unfold adr
  rw [if_neg ho]
theorem Hp.rf0 {i_z a_z : Nat} {f_z : Int} (h_z : Hp c l s M0 M) (ha_z : a_z = c + i_z) (hi_z : i_z < l.length) (hv : lkR (sp l i_z).2.2.1 f_z = 0) : gR M a_z f_z = 0 := by
  rw [ha_z, (h_z.2.2.2 i_z hi_z).2.2.1 f_z, hv]
  rfl
theorem Hp.it {i_z a_z : Nat} {f_z v_z : Int} (h_z : Hp c l s M0 M) (ha_z : a_z = c + i_z) (hi_z : i_z < l.length) (hv : lkI (sp l i_z).2.2.2 f_z = v_z) : gI M a_z f_z = v_z := by
  rw [ha_z, (h_z.2.2.2 i_z hi_z).2.2.2 f_z, hv]
theorem Hp.sz {n_z : Nat} (h_z : Hp c l s M0 M) (hn : l.length = n_z) : gz M + 1 = c + n_z := by
  rw [← hn]
  exact h_z.1
end HE
