/-! THE SMALL MACHINE, part 6: what is checked of each row of code. Own work. -/
def tgOk (pc : Nat) (o : Int) : Bool := decide (0 ≤ (pc : Int) + o)
def calHas (o k_z a_z n_z cl_z how : Nat) : Bool := calL.any (fun q_z => Nat.beq q_z.1 o && Nat.beq q_z.2.1 k_z && Nat.beq q_z.2.2.1 a_z && Nat.beq q_z.2.2.2.1 n_z && Nat.beq q_z.2.2.2.2.1 cl_z && Nat.beq q_z.2.2.2.2.2.2 how)
def calRoom (j_z a_z b_z : Nat) : Bool := Nat.blt 0 a_z && Nat.blt a_z 260 && Nat.ble (mht a_z + 1) (mht j_z) && Nat.ble (19 + (tab a_z).1 + mlo a_z) (mlo j_z) && Nat.ble (b_z / 1000) (tab a_z).1
def isRefTy (r_z : Option FieldType) : Bool := match r_z with
  | some (.object _) => true
  | some (.array _) => true
  | _ => false
def chkI (j_z : Nat) (i_z : Instr) (pc len_z a_z b_z : Nat) (c_z : Int) (nx : Nat) : Bool := match i_z with
  | .aconst_null => Nat.beq len_z 1 && Nat.beq nx (pc + 1)
  | .iconst z_z => Nat.beq len_z 1 && Nat.beq nx (pc + 1) && decide (-128 ≤ z_z ∧ z_z ≤ 127)
  | .bipush z_z => Nat.beq len_z 2 && Nat.beq nx (pc + 2) && decide (-128 ≤ z_z ∧ z_z ≤ 127)
  | .sipush z_z => Nat.beq len_z 3 && Nat.beq nx (pc + 3) && decide (-32768 ≤ z_z ∧ z_z ≤ 32767)
  | .lconst _ => Nat.beq len_z 1 && Nat.beq nx (pc + 1)
  | .ldc k_z => Nat.beq len_z 2 && Nat.beq nx (pc + 2) && cniL.contains (mow j_z, k_z, c_z)
  | .ldc_w k_z => Nat.beq len_z 3 && Nat.beq nx (pc + 3) && cniL.contains (mow j_z, k_z, c_z)
  | .ldc2_w k_z => Nat.beq len_z 3 && Nat.beq nx (pc + 3) && cnlL.contains (mow j_z, k_z, c_z)
  | .iload_n _ | .lload_n _ | .aload_n _ => Nat.beq len_z 1 && Nat.beq nx (pc + 1)
  | .iload _ | .lload _ | .aload _ => Nat.beq len_z 2 && Nat.beq nx (pc + 2)
  | .istore_n k_z | .astore_n k_z => Nat.beq len_z 1 && Nat.beq nx (pc + 1) && Nat.blt k_z.val (tab j_z).1
  | .istore k_z | .astore k_z => Nat.beq len_z 2 && Nat.beq nx (pc + 2) && Nat.blt k_z (tab j_z).1
  | .lstore_n k_z => Nat.beq len_z 1 && Nat.beq nx (pc + 1) && Nat.blt (k_z.val + 1) (tab j_z).1
  | .lstore k_z => Nat.beq len_z 2 && Nat.beq nx (pc + 2) && Nat.blt (k_z + 1) (tab j_z).1
  | .iinc k_z _ => Nat.beq len_z 3 && Nat.beq nx (pc + 3) && Nat.blt k_z (tab j_z).1
  | .iadd | .isub | .imul | .idiv | .irem | .ineg | .iand | .ishr | .i2c => Nat.beq len_z 1 && Nat.beq nx (pc + 1)
  | .ladd | .lsub | .lmul | .ldiv | .lrem | .lneg | .lor | .lxor | .lshl | .lshr => Nat.beq len_z 1 && Nat.beq nx (pc + 1)
  | .i2l | .l2i | .lcmp | .dup | .dup2 | .pop => Nat.beq len_z 1 && Nat.beq nx (pc + 1)
  | .arraylength | .iaload | .laload | .baload | .aaload | .iastore | .lastore | .bastore | .aastore => Nat.beq len_z 1 && Nat.beq nx (pc + 1)
  | .ifCond _ o | .if_icmp _ o | .if_acmp _ o | .ifnull o | .ifnonnull o => Nat.beq len_z 3 && Nat.beq nx (pc + 3) && tgOk pc o
  | .goto o => Nat.beq len_z 3 && tgOk pc o
  | .tableswitch d_z lo_z hi_z os => tgOk pc d_z && os.toList.all (tgOk pc) && decide ((os.toList.length : Int) = hi_z - lo_z + 1)
  | .lookupswitch d_z ps_z => tgOk pc d_z && ps_z.toList.all (fun q_z => tgOk pc q_z.2) && (ps_z.toList.zip (ps_z.toList.drop 1)).all (fun x_z => decide (x_z.1.1 < x_z.2.1))
  | .getfield k_z => Nat.beq len_z 3 && Nat.beq nx (pc + 3) && decide (c_z = (c_z.toNat : Int)) && (fldL.contains (mow j_z, k_z, a_z, b_z, c_z.toNat) || rofL.contains (mow j_z, k_z, a_z, b_z, c_z.toNat))
  | .putfield k_z => Nat.beq len_z 3 && Nat.beq nx (pc + 3) && decide (c_z = (c_z.toNat : Int)) && fldL.contains (mow j_z, k_z, a_z, b_z, c_z.toNat) && (!(kT a_z c_z.toNat).2.2.2 || (decide ((mty j_z).name = "<init>") && decide (kR a_z = onm (mow j_z))))
  | .getstatic k_z => Nat.beq len_z 3 && Nat.beq nx (pc + 3) && decide (c_z = (c_z.toNat : Int)) && stfL.contains (mow j_z, k_z, a_z, b_z, c_z.toNat)
  | .new k_z => Nat.beq len_z 3 && Nat.beq nx (pc + 3) && newL.contains (mow j_z, k_z, a_z, b_z)
  | .newarray t_z => Nat.beq len_z 2 && Nat.beq nx (pc + 2) && ((Nat.beq a_z 100 && decide (t_z = .int)) || (Nat.beq a_z 101 && decide (t_z = .long)) || (Nat.beq a_z 102 && decide (t_z = .boolean)))
  | .anewarray k_z => Nat.beq len_z 3 && Nat.beq nx (pc + 3) && anwL.contains (mow j_z, k_z, a_z, 0)
  | .invokevirtual k_z => (match c_z with
    | .ofNat cl_z => Nat.beq len_z 3 && Nat.beq nx (pc + 3) && calRoom j_z a_z b_z && (calHas (mow j_z) k_z a_z (b_z % 1000) cl_z 1 || (Nat.beq cl_z 41 && Nat.beq b_z 1001 && ordL.contains (mow j_z, k_z, a_z, 1, 41)))
    | _ => true)
  | .invokestatic k_z => (match c_z with
    | .ofNat cl_z => Nat.beq len_z 3 && Nat.beq nx (pc + 3) && calRoom j_z a_z b_z && calHas (mow j_z) k_z a_z (b_z % 1000) cl_z 0
    | .negSucc 1 => Nat.beq len_z 3 && Nat.beq nx (pc + 3) && acpL.contains (mow j_z, k_z) && Nat.ble 1 (mht j_z) && Nat.ble 40 (mlo j_z)
    | _ => true)
  | .invokespecial k_z => (match c_z with
    | .ofNat cl_z => Nat.beq len_z 3 && Nat.beq nx (pc + 3) && calRoom j_z a_z b_z && calHas (mow j_z) k_z a_z (b_z % 1000) cl_z 2
    | .negSucc 0 => Nat.beq len_z 3 && Nat.beq nx (pc + 3) && obiL.contains (mow j_z, k_z) && Nat.ble 1 (mht j_z) && Nat.ble 20 (mlo j_z)
    | _ => true)
  | .ireturn => Nat.beq len_z 1 && ((Nat.beq a_z 0 && decide (mre j_z = some .int)) || (Nat.beq a_z 1 && decide (mre j_z = some .boolean)) || (Nat.beq a_z 2 && decide (mre j_z = some .char)) || (Nat.beq a_z 3 && decide (mre j_z = some .byte)))
  | .lreturn => Nat.beq len_z 1 && decide (mre j_z = some .long)
  | .areturn => Nat.beq len_z 1 && isRefTy (mre j_z)
  | .return_ => Nat.beq len_z 1 && decide (mre j_z = none)
  | _ => true
def chkL (j_z : Nat) : List CE → Bool
  | [] => true
  | (pc, i_z, len_z, a_z, b_z, c_z) :: L_z => decide (decode (mby j_z) pc = .ok (i_z, len_z)) && chkI j_z i_z pc len_z a_z b_z c_z (hdp L_z) && chkL j_z L_z
def chkJ (j_z : Nat) : Bool := chkL j_z (tab j_z).2 && incr (tab j_z).2
theorem chkL_at : ∀ (j_z : Nat) (L_z : List CE), chkL j_z L_z = true → ∀ (pc : Nat) (p_z : Nat) (i_z : Instr) (len_z a_z b_z : Nat) (c_z : Int) (L' : List CE), sfx L_z pc = (p_z, i_z, len_z, a_z, b_z, c_z) :: L' → p_z = pc ∧ decode (mby j_z) pc = .ok (i_z, len_z) ∧ chkI j_z i_z pc len_z a_z b_z c_z (hdp L') = true
  | _, [], _, _, _, _, _, _, _, _, _, h_z => by cases h_z
  | j_z, (q_z, i0_z, len0, a0_z, b0, c0_z) :: L_z, hc_z, pc, p_z, i_z, len_z, a_z, b_z, c_z, L', h_z => by
    simp only [chkL, Bool.and_eq_true, decide_eq_true_eq] at hc_z
    by_cases hq : q_z = pc
    · subst hq
      rw [show q_z = ((q_z, i0_z, len0, a0_z, b0, c0_z) : CE).1 from rfl, sfx_eq] at h_z
      cases h_z
      exact ⟨rfl, hc_z.1.1, hc_z.1.2⟩
    · rw [sfx_ne (e := (q_z, i0_z, len0, a0_z, b0, c0_z)) hq] at h_z
      exact chkL_at j_z L_z hc_z.2 pc p_z i_z len_z a_z b_z c_z L' h_z
def chkN (j_z : Nat) : Nat → List CE → Bool
  | 0, _ => true
  | _ + 1, [] => true
  | n_z + 1, (pc, i_z, len_z, a_z, b_z, c_z) :: L_z => decide (decode (mby j_z) pc = .ok (i_z, len_z)) && chkI j_z i_z pc len_z a_z b_z c_z (hdp L_z) && chkN j_z n_z L_z
theorem chkN_L (j_z : Nat) : ∀ (n_z : Nat) (L_z : List CE), chkN j_z n_z L_z = true → chkL j_z (L_z.drop n_z) = true → chkL j_z L_z = true
  | 0, _, _, h_z => h_z
  | n_z + 1, [], _, h_z => by simpa using h_z
  | n_z + 1, (pc, i_z, len_z, a_z, b_z, c_z) :: L_z, h1, h2 => by
    simp only [chkN, Bool.and_eq_true] at h1
    simp only [chkL, Bool.and_eq_true]
    exact ⟨h1.1, chkN_L j_z n_z L_z h1.2 (by simpa using h2)⟩
