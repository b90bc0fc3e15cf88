/-! THE SMALL MACHINE, part 6: how its states stand for the machine's. Own work. -/
def cv : AV → Value
  | .inl z => .int (Int32.ofInt z)
  | .inr (.inl z) => .long (Int64.ofInt z)
  | .inr (.inr (.inl 0)) => .null
  | .inr (.inr (.inl (r + 1))) => .ref r
  | .inr (.inr (.inr _)) => .null
def okv : AV → Prop
  | .inl z => inI z
  | .inr (.inl z) => inL z
  | .inr (.inr (.inl _)) => True
  | .inr (.inr (.inr _)) => False
def ro (r : Nat) : Option Nat := match r with
  | 0 => none
  | r + 1 => some r
theorem cv_r (r : Nat) : cv (a_r r) = va_rf (ro r) := by cases r <;> rfl
theorem ro_inj {x y : Nat} : ro x = ro y ↔ x = y := by
  cases x <;> cases y <;> simp [ro]
theorem cv_cat (v : AV) : (cv v).category = catv v := by
  rcases v with z | z | r | u
  · rfl
  · rfl
  · cases r <;> rfl
  · rfl
/-! locals -/
def RL (n : Nat) (al : List AV) (ls : Array Slot) : Prop := ls.size = n ∧ lv_wf ls ∧ ∀ (i : Nat) (v : AV), al[i]? = some v → (v = a_u ∨ (okv v ∧ ls[i]? = some (.val (cv v))))
def prs : Nat → List AV → List (Nat × Value)
  | _, [] => []
  | k, .inl z :: al => (k, cv (a_i z)) :: prs (k + 1) al
  | k, .inr (.inl z) :: al => (k, cv (a_l z)) :: prs (k + 1) al
  | k, .inr (.inr (.inl z)) :: al => (k, cv (a_r z)) :: prs (k + 1) al
  | k, .inr (.inr (.inr _)) :: al => prs (k + 1) al
theorem prs_mem : ∀ (al : List AV) (k : Nat) (q : Nat × Value), q ∈ prs k al → ∃ (i : Nat) (v : AV), al[i]? = some v ∧ q = (k + i, cv v) ∧ v ≠ a_u := by
  intro al
  induction al with
  | nil => intro k q h; exact absurd h List.not_mem_nil
  | cons v al ih =>
    intro k q h
    have go : ∀ q, q ∈ prs (k + 1) al → ∃ (i : Nat) (w : AV), (v :: al)[i]? = some w ∧ q = (k + i, cv w) ∧ w ≠ a_u := by
      intro q h
      obtain ⟨i, w, h1, h2, h3⟩ := ih (k + 1) q h
      exact ⟨i + 1, w, h1, by rw [h2, show k + 1 + i = k + (i + 1) by omega], h3⟩
    rcases v with z | z | r | u
    · rcases List.mem_cons.mp h with rfl | h
      · exact ⟨0, _, rfl, rfl, fun e => by cases e⟩
      · exact go q h
    · rcases List.mem_cons.mp h with rfl | h
      · exact ⟨0, _, rfl, rfl, fun e => by cases e⟩
      · exact go q h
    · rcases List.mem_cons.mp h with rfl | h
      · exact ⟨0, _, rfl, rfl, fun e => by cases e⟩
      · exact go q h
    · exact go q h
theorem prs_of : ∀ (al : List AV) (k i : Nat) (v : AV), al[i]? = some v → v ≠ a_u → (k + i, cv v) ∈ prs k al := by
  intro al
  induction al with
  | nil => intro k i v h; simp at h
  | cons w al ih =>
    intro k i v h hv
    cases i with
    | zero =>
      rw [List.getElem?_cons_zero] at h
      have e : w = v := Option.some.inj h
      rw [← e] at hv ⊢
      clear h e
      rcases w with z | z | r | u
      · exact List.mem_cons_self
      · exact List.mem_cons_self
      · exact List.mem_cons_self
      · exact absurd rfl hv
    | succ i =>
      rw [List.getElem?_cons_succ] at h
      have h2 := ih (k + 1) i v h hv
      rw [show k + 1 + i = k + (i + 1) by omega] at h2
      rcases w with z | z | r | u
      · exact List.mem_cons_of_mem _ h2
      · exact List.mem_cons_of_mem _ h2
      · exact List.mem_cons_of_mem _ h2
      · exact h2
theorem RL.has {n : Nat} {al : List AV} {ls : Array Slot} (h : RL n al ls) : lv_has ls n (prs 0 al) := by
  refine ⟨h.1, h.2.1, fun q hq => ?_⟩
  obtain ⟨i, v, h1, rfl, h3⟩ := prs_mem al 0 q hq
  rcases h.2.2 i v h1 with h4 | h4
  · exact absurd h4 h3
  · rw [Nat.zero_add]; exact h4.2
theorem sto1_get : ∀ (al : List AV) (i : Nat) (v : AV) (k : Nat) (w : AV), (sto1 al i v)[k]? = some w → (k = i ∧ w = v) ∨ (k ≠ i ∧ k + 1 ≠ i ∧ al[k]? = some w) ∨ (k + 1 = i ∧ ∃ x, al[k]? = some x ∧ w = killL x)
  | [], i, v, k, w, h => by simp [sto1] at h
  | x :: xs, 0, v, k, w, h => by
    simp only [sto1] at h
    cases k with
    | zero => rw [List.getElem?_cons_zero] at h; cases h; exact Or.inl ⟨rfl, rfl⟩
    | succ k => rw [List.getElem?_cons_succ] at h; exact Or.inr (Or.inl ⟨by omega, by omega, by rw [List.getElem?_cons_succ]; exact h⟩)
  | x :: xs, 1, v, k, w, h => by
    simp only [sto1] at h
    cases k with
    | zero => rw [List.getElem?_cons_zero] at h; cases h; exact Or.inr (Or.inr ⟨rfl, x, rfl, rfl⟩)
    | succ k =>
      rw [List.getElem?_cons_succ] at h
      rcases sto1_get xs 0 v k w h with ⟨h1, h2⟩ | ⟨h1, h2, h3⟩ | ⟨h1, y, h2, h3⟩
      · exact Or.inl ⟨by omega, h2⟩
      · exact Or.inr (Or.inl ⟨by omega, by omega, by rw [List.getElem?_cons_succ]; exact h3⟩)
      · omega
  | x :: xs, n + 2, v, k, w, h => by
    simp only [sto1] at h
    cases k with
    | zero => rw [List.getElem?_cons_zero] at h; cases h; exact Or.inr (Or.inl ⟨by omega, by omega, rfl⟩)
    | succ k =>
      rw [List.getElem?_cons_succ] at h
      rcases sto1_get xs (n + 1) v k w h with ⟨h1, h2⟩ | ⟨h1, h2, h3⟩ | ⟨h1, y, h2, h3⟩
      · exact Or.inl ⟨by omega, h2⟩
      · exact Or.inr (Or.inl ⟨by omega, by omega, by rw [List.getElem?_cons_succ]; exact h3⟩)
      · exact Or.inr (Or.inr ⟨by omega, y, by rw [List.getElem?_cons_succ]; exact h2, h3⟩)
theorem sto2_get : ∀ (al : List AV) (i : Nat) (v : AV) (k : Nat) (w : AV), (sto2 al i v)[k]? = some w → (k = i ∧ w = v) ∨ (k = i + 1 ∧ w = a_u) ∨ (k ≠ i ∧ k ≠ i + 1 ∧ k + 1 ≠ i ∧ al[k]? = some w) ∨ (k + 1 = i ∧ ∃ x, al[k]? = some x ∧ w = killL x)
  | [], i, v, k, w, h => by simp [sto2] at h
  | [x], 0, v, k, w, h => by
    simp only [sto2] at h
    cases k with
    | zero => rw [List.getElem?_cons_zero] at h; cases h; exact Or.inl ⟨rfl, rfl⟩
    | succ k => rw [List.getElem?_cons_succ] at h; simp at h
  | x :: y :: xs, 0, v, k, w, h => by
    simp only [sto2] at h
    match k with
    | 0 => rw [List.getElem?_cons_zero] at h; cases h; exact Or.inl ⟨rfl, rfl⟩
    | 1 => rw [List.getElem?_cons_succ, List.getElem?_cons_zero] at h; cases h; exact Or.inr (Or.inl ⟨rfl, rfl⟩)
    | k + 2 => rw [List.getElem?_cons_succ, List.getElem?_cons_succ] at h; exact Or.inr (Or.inr (Or.inl ⟨by omega, by omega, by omega, by rw [List.getElem?_cons_succ, List.getElem?_cons_succ]; exact h⟩))
  | x :: xs, 1, v, k, w, h => by
    simp only [sto2] at h
    cases k with
    | zero => rw [List.getElem?_cons_zero] at h; cases h; exact Or.inr (Or.inr (Or.inr ⟨rfl, x, rfl, rfl⟩))
    | succ k =>
      rw [List.getElem?_cons_succ] at h
      rcases sto2_get xs 0 v k w h with ⟨h1, h2⟩ | ⟨h1, h2⟩ | ⟨h1, h2, h3, h4⟩ | ⟨h1, y, h2, h3⟩
      · exact Or.inl ⟨by omega, h2⟩
      · exact Or.inr (Or.inl ⟨by omega, h2⟩)
      · exact Or.inr (Or.inr (Or.inl ⟨by omega, by omega, by omega, by rw [List.getElem?_cons_succ]; exact h4⟩))
      · omega
  | x :: xs, n + 2, v, k, w, h => by
    simp only [sto2] at h
    cases k with
    | zero => rw [List.getElem?_cons_zero] at h; cases h; exact Or.inr (Or.inr (Or.inl ⟨by omega, by omega, by omega, rfl⟩))
    | succ k =>
      rw [List.getElem?_cons_succ] at h
      rcases sto2_get xs (n + 1) v k w h with ⟨h1, h2⟩ | ⟨h1, h2⟩ | ⟨h1, h2, h3, h4⟩ | ⟨h1, y, h2, h3⟩
      · exact Or.inl ⟨by omega, h2⟩
      · exact Or.inr (Or.inl ⟨by omega, h2⟩)
      · exact Or.inr (Or.inr (Or.inl ⟨by omega, by omega, by omega, by rw [List.getElem?_cons_succ]; exact h4⟩))
      · exact Or.inr (Or.inr (Or.inr ⟨by omega, y, by rw [List.getElem?_cons_succ]; exact h2, h3⟩))
theorem killL_ok {x : AV} (h : killL x ≠ a_u) : killL x = x ∧ catv x = 1 := by
  rcases x with z | z | r | u
  · exact ⟨rfl, rfl⟩
  · exact absurd rfl h
  · exact ⟨rfl, rfl⟩
  · exact ⟨rfl, rfl⟩
theorem RL.sto1 {n i : Nat} {al : List AV} {ls ls' : Array Slot} {v : AV} (h : RL n al ls) (hv : okv v) (h' : lv_has ls' n ((i, cv v) :: (prs 0 al).filter (fun q => !(q.1 == i) && !(q.1 + 1 == i && q.2.category == 2)))) : RL n (sto1 al i v) ls' := by
  refine ⟨h'.1, h'.2.1, fun k w hk => ?_⟩
  by_cases hw : w = a_u
  · exact Or.inl hw
  refine Or.inr ?_
  rcases sto1_get al i v k w hk with ⟨rfl, rfl⟩ | ⟨h1, h2, h3⟩ | ⟨h1, x, h2, rfl⟩
  · exact ⟨hv, h'.2.2 _ List.mem_cons_self⟩
  · rcases h.2.2 k w h3 with q | q
    · exact absurd q hw
    · refine ⟨q.1, h'.2.2 (k, cv w) (List.mem_cons_of_mem _ (List.mem_filter.mpr ⟨?_, ?_⟩))⟩
      · have := prs_of al 0 k w h3 hw
        rwa [Nat.zero_add] at this
      · simp [h1, h2]
  · obtain ⟨e1, e2⟩ := killL_ok hw
    rw [e1] at hw ⊢
    rcases h.2.2 k x h2 with q | q
    · exact absurd q hw
    · refine ⟨q.1, h'.2.2 (k, cv x) (List.mem_cons_of_mem _ (List.mem_filter.mpr ⟨?_, ?_⟩))⟩
      · have := prs_of al 0 k x h2 hw
        rwa [Nat.zero_add] at this
      · have e3 : (cv x).category = 1 := by rw [cv_cat]; exact e2
        simp [e3]; omega
theorem RL.sto2 {n i : Nat} {al : List AV} {ls ls' : Array Slot} {v : AV} (h : RL n al ls) (hv : okv v) (h' : lv_has ls' n ((i, cv v) :: (prs 0 al).filter (fun q => !(q.1 == i) && (!(q.1 == i + 1) && !(q.1 + 1 == i && q.2.category == 2))))) : RL n (sto2 al i v) ls' := by
  refine ⟨h'.1, h'.2.1, fun k w hk => ?_⟩
  by_cases hw : w = a_u
  · exact Or.inl hw
  refine Or.inr ?_
  rcases sto2_get al i v k w hk with ⟨rfl, rfl⟩ | ⟨h1, h2⟩ | ⟨h1, h2, h3, h4⟩ | ⟨h1, x, h2, rfl⟩
  · exact ⟨hv, h'.2.2 _ List.mem_cons_self⟩
  · exact absurd h2 hw
  · rcases h.2.2 k w h4 with q | q
    · exact absurd q hw
    · refine ⟨q.1, h'.2.2 (k, cv w) (List.mem_cons_of_mem _ (List.mem_filter.mpr ⟨?_, ?_⟩))⟩
      · have := prs_of al 0 k w h4 hw
        rwa [Nat.zero_add] at this
      · simp [h1, h2, h3]
  · obtain ⟨e1, e2⟩ := killL_ok hw
    rw [e1] at hw ⊢
    rcases h.2.2 k x h2 with q | q
    · exact absurd q hw
    · refine ⟨q.1, h'.2.2 (k, cv x) (List.mem_cons_of_mem _ (List.mem_filter.mpr ⟨?_, ?_⟩))⟩
      · have := prs_of al 0 k x h2 hw
        rwa [Nat.zero_add] at this
      · have e3 : (cv x).category = 1 := by rw [cv_cat]; exact e2
        simp [e3]; omega
theorem ini0_args : ∀ (as : List AV) (o k : Nat) (w : AV), (ini0 as)[k]? = some w → w = a_u ∨ (w ∈ as ∧ (o + k, cv w) ∈ lv_args o (as.map cv))
  | [], o, k, w, h => by simp [ini0] at h
  | .inl z :: as, o, k, w, h => by
    simp only [ini0] at h
    cases k with
    | zero => rw [List.getElem?_cons_zero] at h; cases h; exact Or.inr ⟨List.mem_cons_self, List.mem_cons_self⟩
    | succ k =>
      rw [List.getElem?_cons_succ] at h
      rcases ini0_args as (o + 1) k w h with q | q
      · exact Or.inl q
      · refine Or.inr ⟨List.mem_cons_of_mem _ q.1, List.mem_cons_of_mem _ ?_⟩
        rw [show o + (k + 1) = o + 1 + k by omega]
        exact q.2
  | .inr (.inl z) :: as, o, k, w, h => by
    simp only [ini0] at h
    match k with
    | 0 => rw [List.getElem?_cons_zero] at h; cases h; exact Or.inr ⟨List.mem_cons_self, List.mem_cons_self⟩
    | 1 => rw [List.getElem?_cons_succ, List.getElem?_cons_zero] at h; cases h; exact Or.inl rfl
    | k + 2 =>
      rw [List.getElem?_cons_succ, List.getElem?_cons_succ] at h
      rcases ini0_args as (o + 2) k w h with q | q
      · exact Or.inl q
      · refine Or.inr ⟨List.mem_cons_of_mem _ q.1, List.mem_cons_of_mem _ ?_⟩
        rw [show o + (k + 2) = o + 2 + k by omega]
        exact q.2
  | .inr (.inr (.inl r)) :: as, o, k, w, h => by
    simp only [ini0] at h
    cases k with
    | zero => rw [List.getElem?_cons_zero] at h; cases h; exact Or.inr ⟨List.mem_cons_self, List.mem_cons_self⟩
    | succ k =>
      rw [List.getElem?_cons_succ] at h
      rcases ini0_args as (o + 1) k w h with q | q
      · exact Or.inl q
      · refine Or.inr ⟨List.mem_cons_of_mem _ q.1, List.mem_cons_of_mem _ ?_⟩
        rw [show o + (k + 1) = o + 1 + k by omega, show (if (cv (a_r r)).category = 2 then o + 2 else o + 1) = o + 1 by cases r <;> rfl]
        exact q.2
  | .inr (.inr (.inr u)) :: as, o, k, w, h => by
    simp only [ini0] at h
    cases k with
    | zero => rw [List.getElem?_cons_zero] at h; cases h; exact Or.inl rfl
    | succ k =>
      rw [List.getElem?_cons_succ] at h
      rcases ini0_args as (o + 1) k w h with q | q
      · exact Or.inl q
      · refine Or.inr ⟨List.mem_cons_of_mem _ q.1, List.mem_cons_of_mem _ ?_⟩
        rw [show o + (k + 1) = o + 1 + k by omega]
        exact q.2
theorem RL.ini {n : Nat} {as : List AV} {ls : Array Slot} (has : ∀ v ∈ as, okv v) (h : lv_has ls n (lv_args 0 (as.map cv))) : RL n (ini n as) ls := by
  refine ⟨h.1, h.2.1, fun k w hk => ?_⟩
  replace hk : (ini0 as ++ List.replicate (n - (ini0 as).length) a_u)[k]? = some w := hk
  by_cases hl : k < (ini0 as).length
  · rw [List.getElem?_append_left hl] at hk
    rcases ini0_args as 0 k w hk with q | q
    · exact Or.inl q
    · refine Or.inr ⟨has w q.1, ?_⟩
      have := h.2.2 _ q.2
      rwa [Nat.zero_add] at this
  · rw [List.getElem?_append_right (by omega)] at hk
    have := List.mem_of_getElem? hk
    exact Or.inl (List.eq_of_mem_replicate this)
