/-! THE SMALL MACHINE, part 4: whole numbers as the machine's ints and longs. Own work. -/
theorem i_rt {x : Int} (h : inI x) : (Int32.ofInt x).toInt = x := Int32.toInt_ofInt_of_le h.1 (by have := h.2; omega)
theorem i_in (x : Int32) : inI x.toInt := ⟨Int32.le_toInt x, by have := Int32.toInt_lt x; omega⟩
theorem i_of (x : Int32) : Int32.ofInt x.toInt = x := Int32.ofInt_toInt x
theorem i_eq {x y : Int} (hx : inI x) (hy : inI y) : Int32.ofInt x = Int32.ofInt y ↔ x = y := ⟨fun h => by rw [← i_rt hx, h, i_rt hy], fun h => by rw [h]⟩
theorem i_lt {x y : Int} (hx : inI x) (hy : inI y) : Int32.ofInt x < Int32.ofInt y ↔ x < y := by rw [Int32.lt_iff_toInt_lt, i_rt hx, i_rt hy]
theorem i_le {x y : Int} (hx : inI x) (hy : inI y) : Int32.ofInt x ≤ Int32.ofInt y ↔ x ≤ y := by rw [Int32.le_iff_toInt_le, i_rt hx, i_rt hy]
theorem i_z : inI 0 := ⟨by decide, by decide⟩
theorem i_0 : Int32.ofInt 0 = 0 := rfl
theorem i_add (x y : Int) : Int32.ofInt x + Int32.ofInt y = Int32.ofInt (x + y) := (Int32.ofInt_add x y).symm
theorem i_sub (x y : Int) : Int32.ofInt x - Int32.ofInt y = Int32.ofInt (x - y) := (Int32.ofInt_sub x y).symm
theorem i_mul (x y : Int) : Int32.ofInt x * Int32.ofInt y = Int32.ofInt (x * y) := (Int32.ofInt_mul x y).symm
theorem i_neg (x : Int) : -Int32.ofInt x = Int32.ofInt (-x) := (Int32.ofInt_neg x).symm
theorem i_div {x y : Int} (hx : inI x) (hy : inI y) (h : inI (Int.tdiv x y)) : Int32.ofInt x / Int32.ofInt y = Int32.ofInt (Int.tdiv x y) := by
  apply Int32.toInt_inj.mp
  rw [Int32.toInt_div, i_rt hx, i_rt hy, i_rt h]
  exact Int.bmod_eq_of_le (by have := h.1; omega) (by have := h.2; omega)
theorem i_rem {x y : Int} (hx : inI x) (hy : inI y) (h : inI (Int.tdiv x y)) : Int32.ofInt x - Int32.ofInt x / Int32.ofInt y * Int32.ofInt y = Int32.ofInt (Int.tmod x y) := by
  rw [i_div hx hy h, i_mul, i_sub]
  congr 1
  have := Int.mul_tdiv_add_tmod x y
  rw [Int.mul_comm] at this
  omega
theorem i_tmod {x y : Int} (hx : inI x) (hy : inI y) : inI (Int.tmod x y) := by
  obtain ⟨h1, h2⟩ := hx
  by_cases h0 : 0 ≤ x
  · have a := Int.tmod_nonneg y h0
    have b : Int.tmod x y ≤ x := by
      rw [Int.tmod_eq_emod_of_nonneg h0]
      by_cases hy0 : y = 0
      · subst hy0; simp
      · have e := Int.mul_ediv_add_emod x y
        by_cases hp : 0 < y
        · have := Int.mul_nonneg (Int.le_of_lt hp) (Int.ediv_nonneg h0 (Int.le_of_lt hp))
          omega
        · have hq : y < 0 := by omega
          have q := Int.ediv_nonpos_of_nonneg_of_nonpos h0 (Int.le_of_lt hq)
          have := Int.mul_nonneg_of_nonpos_of_nonpos (Int.le_of_lt hq) q
          omega
    exact ⟨by omega, by omega⟩
  · have hn : Int.tmod x y = -(Int.tmod (-x) y) := by rw [Int.neg_tmod, Int.neg_neg]
    have h0' : 0 ≤ -x := by omega
    have a := Int.tmod_nonneg y h0'
    have b : Int.tmod (-x) y ≤ -x := by
      rw [Int.tmod_eq_emod_of_nonneg h0']
      by_cases hy0 : y = 0
      · subst hy0; simp
      · have e := Int.mul_ediv_add_emod (-x) y
        by_cases hp : 0 < y
        · have := Int.mul_nonneg (Int.le_of_lt hp) (Int.ediv_nonneg h0' (Int.le_of_lt hp))
          omega
        · have hq : y < 0 := by omega
          have q := Int.ediv_nonpos_of_nonneg_of_nonpos h0' (Int.le_of_lt hq)
          have := Int.mul_nonneg_of_nonpos_of_nonpos (Int.le_of_lt hq) q
          omega
    exact ⟨by omega, by omega⟩
theorem l_rt {x : Int} (h : inL x) : (Int64.ofInt x).toInt = x := Int64.toInt_ofInt_of_le h.1 (by have := h.2; omega)
theorem l_in (x : Int64) : inL x.toInt := ⟨Int64.le_toInt x, by have := Int64.toInt_lt x; omega⟩
theorem l_of (x : Int64) : Int64.ofInt x.toInt = x := Int64.ofInt_toInt x
theorem l_eq {x y : Int} (hx : inL x) (hy : inL y) : Int64.ofInt x = Int64.ofInt y ↔ x = y := ⟨fun h => by rw [← l_rt hx, h, l_rt hy], fun h => by rw [h]⟩
theorem l_lt {x y : Int} (hx : inL x) (hy : inL y) : Int64.ofInt x < Int64.ofInt y ↔ x < y := by rw [Int64.lt_iff_toInt_lt, l_rt hx, l_rt hy]
theorem l_add (x y : Int) : Int64.ofInt x + Int64.ofInt y = Int64.ofInt (x + y) := (Int64.ofInt_add x y).symm
theorem l_sub (x y : Int) : Int64.ofInt x - Int64.ofInt y = Int64.ofInt (x - y) := (Int64.ofInt_sub x y).symm
theorem l_mul (x y : Int) : Int64.ofInt x * Int64.ofInt y = Int64.ofInt (x * y) := (Int64.ofInt_mul x y).symm
theorem l_neg (x : Int) : -Int64.ofInt x = Int64.ofInt (-x) := (Int64.ofInt_neg x).symm
theorem l_div {x y : Int} (hx : inL x) (hy : inL y) (h : inL (Int.tdiv x y)) : Int64.ofInt x / Int64.ofInt y = Int64.ofInt (Int.tdiv x y) := by
  apply Int64.toInt_inj.mp
  rw [Int64.toInt_div, l_rt hx, l_rt hy, l_rt h]
  exact Int.bmod_eq_of_le (by have := h.1; omega) (by have := h.2; omega)
theorem l_rem {x y : Int} (hx : inL x) (hy : inL y) (h : inL (Int.tdiv x y)) : Int64.ofInt x - Int64.ofInt x / Int64.ofInt y * Int64.ofInt y = Int64.ofInt (Int.tmod x y) := by
  rw [l_div hx hy h, l_mul, l_sub]
  congr 1
  have := Int.mul_tdiv_add_tmod x y
  rw [Int.mul_comm] at this
  omega
theorem l_tmod {x y : Int} (hx : inL x) (hy : inL y) : inL (Int.tmod x y) := by
  obtain ⟨h1, h2⟩ := hx
  have key : ∀ z : Int, 0 ≤ z → 0 ≤ Int.tmod z y ∧ Int.tmod z y ≤ z := by
    intro z h0
    refine ⟨Int.tmod_nonneg y h0, ?_⟩
    rw [Int.tmod_eq_emod_of_nonneg h0]
    by_cases hy0 : y = 0
    · subst hy0; simp
    · have e := Int.mul_ediv_add_emod z y
      by_cases hp : 0 < y
      · have := Int.mul_nonneg (Int.le_of_lt hp) (Int.ediv_nonneg h0 (Int.le_of_lt hp))
        omega
      · have hq : y < 0 := by omega
        have q := Int.ediv_nonpos_of_nonneg_of_nonpos h0 (Int.le_of_lt hq)
        have := Int.mul_nonneg_of_nonpos_of_nonpos (Int.le_of_lt hq) q
        omega
  by_cases h0 : 0 ≤ x
  · have := key x h0
    exact ⟨by omega, by omega⟩
  · have hn : Int.tmod x y = -(Int.tmod (-x) y) := by rw [Int.neg_tmod, Int.neg_neg]
    have := key (-x) (by omega)
    exact ⟨by omega, by omega⟩
theorem i_l {x : Int} (h : inI x) : (Int32.ofInt x).toInt64 = Int64.ofInt x := by
  apply Int64.toInt_inj.mp
  rw [Int32.toInt_toInt64, i_rt h, l_rt ⟨by have := h.1; omega, by have := h.2; omega⟩]
theorem i_inL {x : Int} (h : inI x) : inL x := ⟨by have := h.1; omega, by have := h.2; omega⟩
theorem l_cmp {x y : Int} (hx : inL x) (hy : inL y) : lg_cmp (Int64.ofInt x) (Int64.ofInt y) = Int32.ofInt (zCmp x y) := by
  unfold lg_cmp zCmp
  have e1 : (Int64.ofInt x > Int64.ofInt y) ↔ y < x := l_lt hy hx
  have e2 := l_eq hx hy
  by_cases h1 : y < x
  · rw [if_pos (e1.mpr h1), if_neg (by omega), if_neg (by omega)]; rfl
  · rw [if_neg (fun q => h1 (e1.mp q))]
    by_cases h2 : x = y
    · rw [if_pos (e2.mpr h2), if_neg (by omega), if_pos h2]; rfl
    · rw [if_neg (fun q => h2 (e2.mp q)), if_pos (by omega)]; rfl
theorem zCmp_in (x y : Int) : inI (zCmp x y) := by
  unfold zCmp
  split
  · exact ⟨by decide, by decide⟩
  · split <;> exact ⟨by decide, by decide⟩
theorem i_clamp {x : Int} (h : inI x) (h0 : 0 ≤ x) : (Int32.ofInt x).toNatClampNeg = x.toNat := by
  show (Int32.ofInt x).toInt.toNat = x.toNat
  rw [i_rt h]
theorem i_nneg {x : Int} (h : inI x) (h0 : 0 ≤ x) : ¬ Int32.ofInt x < 0 := by
  rw [← i_0, i_lt h i_z]; omega
theorem i_isz {x : Int} (h : inI x) : Int32.ofInt x = 0 ↔ x = 0 := by rw [← i_0, i_eq h i_z]
theorem l_isz {x : Int} (h : inL x) : Int64.ofInt x = 0 ↔ x = 0 := by rw [show (0 : Int64) = Int64.ofInt 0 from rfl, l_eq h ⟨by decide, by decide⟩]
