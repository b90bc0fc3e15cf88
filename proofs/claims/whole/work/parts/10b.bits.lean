/-! THE PURE PART, part 10: bits. Own work. -/
/-- a fraction as one long -/
def pk (u_z d_z : Int) : Int := u_z * 4294967296 + d_z
theorem ofI_toInt {x_z : Int} (h_z : inL x_z) : (BitVec.ofInt 64 x_z).toInt = x_z := by
  rw [BitVec.toInt_ofInt, Int.bmod_def]
  have h1 := h_z.1
  have h2 := h_z.2
  have e_z : ((2 ^ 64 : Nat) : Int) = 18446744073709551616 := by decide
  rw [e_z]
  split <;> omega
theorem l2i_bmod (x_z : Int) : zL2i x_z = x_z.bmod 4294967296 := by
  unfold zL2i
  have e1_z : (Int64.ofInt x_z).toInt32.toInt = ((BitVec.ofInt 64 x_z).signExtend 32).toInt := rfl
  rw [e1_z, BitVec.toInt_signExtend, BitVec.toInt_ofInt]
  have := @Int.bmod_bmod_of_dvd x_z (2 ^ 32) (2 ^ 64) (by decide)
  exact this
theorem l2i_id {x_z : Int} (h_z : inI x_z) : zL2i x_z = x_z := by
  have h1 := h_z.1
  have h2 := h_z.2
  rw [l2i_bmod, Int.bmod_def]
  simp only [Int.cast_ofNat_Int]
  split <;> omega
theorem l2i_pk {u_z d_z : Int} (h0 : 0 ≤ d_z) (h1 : d_z ≤ 2147483647) : zL2i (pk u_z d_z) = d_z := by
  rw [l2i_bmod, Int.bmod_def]
  unfold pk
  simp only [Int.cast_ofNat_Int]
  split <;> omega
theorem shl_eq {x_z : Int} {k_z : Int} {n_z : Nat} (hk : (((Int32.ofInt k_z).toInt64 &&& 63).toBitVec.smod 64).toNat = n_z) : zLshl x_z k_z = ((x_z % 18446744073709551616) * (2 ^ n_z : Nat)).bmod (2 ^ 64) := by
  unfold zLshl
  have e1_z : (Int64.ofInt x_z <<< ((Int32.ofInt k_z).toInt64 &&& 63)).toInt = (BitVec.ofInt 64 x_z <<< (((Int32.ofInt k_z).toInt64 &&& 63).toBitVec.smod 64)).toInt := rfl
  rw [e1_z, BitVec.shiftLeft_eq', hk, BitVec.toInt_shiftLeft, BitVec.toNat_ofInt]
  have e2_z : ((2 ^ 64 : Nat) : Int) = 18446744073709551616 := by decide
  rw [e2_z]
  congr 1
  rw [Nat.shiftLeft_eq, Int.natCast_mul]
  have : ((x_z % 18446744073709551616).toNat : Int) = x_z % 18446744073709551616 := by omega
  rw [this]
theorem shl32 {n_z : Int} (h_z : inI n_z) : zLshl n_z 32 = n_z * 4294967296 := by
  have h1 := h_z.1
  have h2 := h_z.2
  rw [shl_eq (n_z := 32) (by decide), Int.bmod_def]
  have e2_z : ((2 ^ 64 : Nat) : Int) = 18446744073709551616 := by decide
  have e3_z : ((2 ^ 32 : Nat) : Int) = 4294967296 := by decide
  rw [e2_z, e3_z]
  split <;> omega
theorem shl8 {n_z : Int} (h_z : 0 ≤ n_z) (h1 : n_z < 281474976710656) : zLshl n_z 8 = n_z * 256 := by
  rw [shl_eq (n_z := 8) (by decide), Int.bmod_def]
  have e2_z : ((2 ^ 64 : Nat) : Int) = 18446744073709551616 := by decide
  have e3_z : ((2 ^ 8 : Nat) : Int) = 256 := by decide
  rw [e2_z, e3_z]
  split <;> omega
theorem or_eq {x_z y_z : Int} : zLor x_z y_z = ((((x_z % 18446744073709551616).toNat ||| (y_z % 18446744073709551616).toNat) : Nat) : Int).bmod (2 ^ 64) := by
  unfold zLor
  have e1_z : (Int64.ofInt x_z ||| Int64.ofInt y_z).toInt = (BitVec.ofInt 64 x_z ||| BitVec.ofInt 64 y_z).toInt := rfl
  rw [e1_z, BitVec.toInt_or, BitVec.toNat_ofInt, BitVec.toNat_ofInt]
  have e2_z : ((2 ^ 64 : Nat) : Int) = 18446744073709551616 := by decide
  rw [e2_z]
theorem or32 {n_z d_z : Int} (h_z : inI n_z) (h0 : 0 ≤ d_z) (h1 : d_z < 4294967296) : zLor (n_z * 4294967296) d_z = pk n_z d_z := by
  have h2 := h_z.1
  have h3 := h_z.2
  rw [or_eq]
  have e1_z : ((n_z * 4294967296) % 18446744073709551616).toNat = 2 ^ 32 * (n_z % 4294967296).toNat := by
    have : (2 ^ 32 : Nat) = 4294967296 := by decide
    rw [this]
    omega
  have e2_z : (d_z % 18446744073709551616).toNat = d_z.toNat := by omega
  rw [e1_z, e2_z, ← Nat.two_pow_add_eq_or_of_lt (by omega)]
  have e3_z : ((2 ^ 64 : Nat) : Int) = 18446744073709551616 := by decide
  have e4_z : (2 ^ 32 : Nat) = 4294967296 := by decide
  rw [Int.bmod_def, e3_z, e4_z]
  unfold pk
  split <;> omega
theorem or8 {n_z d_z : Int} (h_z : 0 ≤ n_z) (hn : n_z < 281474976710656) (h0 : 0 ≤ d_z) (h1 : d_z < 256) : zLor (n_z * 256) d_z = n_z * 256 + d_z := by
  rw [or_eq]
  have e1_z : ((n_z * 256) % 18446744073709551616).toNat = 2 ^ 8 * n_z.toNat := by
    have : (2 ^ 8 : Nat) = 256 := by decide
    rw [this]
    omega
  have e2_z : (d_z % 18446744073709551616).toNat = d_z.toNat := by omega
  rw [e1_z, e2_z, ← Nat.two_pow_add_eq_or_of_lt (by omega)]
  have e3_z : ((2 ^ 64 : Nat) : Int) = 18446744073709551616 := by decide
  have e4_z : (2 ^ 8 : Nat) = 256 := by decide
  rw [Int.bmod_def, e3_z, e4_z]
  split <;> omega
theorem shr32 {x_z : Int} (h_z : inL x_z) : zLshr x_z 32 = x_z / 4294967296 := by
  unfold zLshr
  have e1_z : (Int64.ofInt x_z >>> ((Int32.ofInt 32).toInt64 &&& 63)).toInt = (BitVec.sshiftRight' (BitVec.ofInt 64 x_z) (((Int32.ofInt 32).toInt64 &&& 63).toBitVec.smod 64)).toInt := rfl
  rw [e1_z, BitVec.toInt_sshiftRight', ofI_toInt h_z]
  have e2_z : (((Int32.ofInt 32).toInt64 &&& 63).toBitVec.smod 64).toNat = 32 := by decide
  rw [e2_z, Int.shiftRight_eq_div_pow]
  rfl
theorem shr_pk {u_z d_z : Int} (h_z : inI u_z) (h0 : 0 ≤ d_z) (h1 : d_z < 4294967296) : zLshr (pk u_z d_z) 32 = u_z := by
  have h2 := h_z.1
  have h3 := h_z.2
  rw [shr32 (by unfold pk inL; omega)]
  unfold pk
  omega
theorem and_low {x_z : Int} {m_z : Nat} (k_z : Int) (hk : (BitVec.ofInt 32 k_z).toNat = 2 ^ m_z - 1) (hm_z : m_z < 31) : zAnd x_z k_z = x_z % (2 ^ m_z : Nat) := by
  unfold zAnd
  have e1_z : (Int32.ofInt x_z &&& Int32.ofInt k_z).toInt = (BitVec.ofInt 32 x_z &&& BitVec.ofInt 32 k_z).toInt := rfl
  rw [e1_z, BitVec.toInt_eq_toNat_bmod, BitVec.toNat_and, hk, Nat.and_two_pow_sub_one_eq_mod, BitVec.toNat_ofInt]
  have e2_z : ((2 ^ 32 : Nat) : Int) = 4294967296 := by decide
  have hp : 0 < 2 ^ m_z := Nat.two_pow_pos m_z
  have hd_z : (2 ^ m_z : Nat) ∣ 4294967296 := ⟨2 ^ (32 - m_z), by rw [← Nat.pow_add, Nat.add_sub_cancel' (by omega)]⟩
  have hle : 2 ^ m_z ≤ 2 ^ 30 := Nat.pow_le_pow_right (by decide) (by omega)
  have e3_z : (2 ^ 30 : Nat) = 1073741824 := by decide
  rw [e2_z, Int.natCast_emod]
  have e4_z : ((x_z % 4294967296).toNat : Int) = x_z % 4294967296 := by omega
  have hd2 : ((2 ^ m_z : Nat) : Int) ∣ 4294967296 := Int.natCast_dvd_natCast.mpr hd_z
  rw [e4_z, Int.emod_emod_of_dvd x_z hd2]
  have h1 := Int.emod_nonneg x_z (b := ((2 ^ m_z : Nat) : Int)) (by omega)
  have h2 := Int.emod_lt_of_pos x_z (b := ((2 ^ m_z : Nat) : Int)) (by omega)
  rw [Int.bmod_def]
  generalize x_z % ((2 ^ m_z : Nat) : Int) = y_z at h1 h2
  rw [show ((2 ^ 32 : Nat) : Int) = 4294967296 from by decide]
  split <;> omega
theorem and1 (x_z : Int) : zAnd x_z 1 = x_z % 2 := and_low (m_z := 1) 1 (by decide) (by decide)
theorem and31 (x_z : Int) : zAnd x_z 31 = x_z % 32 := and_low (m_z := 5) 31 (by decide) (by decide)
theorem xor_neg {x_z y_z : Int} (hx : inL x_z) (hy : inL y_z) : zLxor x_z y_z < 0 ↔ ¬ (x_z < 0 ↔ y_z < 0) := by
  unfold zLxor
  have e1_z : (Int64.ofInt x_z ^^^ Int64.ofInt y_z).toInt = (BitVec.ofInt 64 x_z ^^^ BitVec.ofInt 64 y_z).toInt := rfl
  have hs : ∀ z_z : BitVec 64, z_z.toInt < 0 ↔ z_z.msb = true := fun z_z => by
    rw [BitVec.msb_eq_toInt]
    exact decide_eq_true_iff.symm
  rw [e1_z, hs, BitVec.msb_xor]
  have a1_z := hs (BitVec.ofInt 64 x_z)
  have a2 := hs (BitVec.ofInt 64 y_z)
  rw [ofI_toInt hx] at a1_z
  rw [ofI_toInt hy] at a2
  rw [a1_z, a2]
  generalize (BitVec.ofInt 64 x_z).msb = p_z
  generalize (BitVec.ofInt 64 y_z).msb = q_z
  revert p_z q_z
  decide
