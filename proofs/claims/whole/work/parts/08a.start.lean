/-! THE START, part 8: what the claim gives of the start, as a memory of the small machine. Own work. -/
def encV : Option Value → Nat
  | some (.ref q_z) => q_z + 1
  | _ => 0
def vInt : Option Value → Int
  | some (.int z_z) => z_z.toInt
  | _ => 0
def tvT (i_z : Nat) : Term := .static (stN i_z).1 (stN i_z).2.1 (stN i_z).2.2
def svS (s_z : State) (b_z i_z : Nat) : Nat := encV ((tvT i_z).eval #[Value.ref b_z] s_z none [] s_z)
/-- the operators: the entry of the word, its bytes, five whole numbers -/
def opL : List (Nat × List Nat × List Nat) := [(111, [115, 97, 118, 101], [0, 0, 0, 0, 1]), (117, [114, 101, 115, 116, 111, 114, 101], [1, 0, 0, 0, 1]), (120, [99, 111, 110, 99, 97, 116], [2, 6, 1, 0, 1]), (123, [109, 111, 118, 101], [3, 2, 1, 1, 1]), (126, [108, 105, 110, 101], [4, 2, 1, 1, 0]), (129, [99, 108, 111, 115, 101], [5, 0, 0, 1, 0]), (132, [114, 101, 99, 116], [6, 4, 1, 1, 1]), (135, [99, 108, 105, 112], [7, 0, 0, 1, 0]), (138, [120, 99, 108, 105, 112], [8, 0, 0, 1, 0]), (141, [102, 105, 108, 108], [9, 0, 0, 1, 0]), (144, [120, 102, 105, 108, 108], [10, 0, 0, 1, 0]), (147, [100, 114, 111, 112], [11, 0, 0, 1, 0]), (150, [99, 111, 108, 111, 114], [12, 1, 0, 0, 1]), (153, [100, 114, 97, 119], [13, 1, 0, 0, 1]), (156, [114, 101, 112, 101, 97, 116], [14, 1, 1, 0, 1]), (159, [110, 101, 120, 116], [15, 0, 0, 0, 1]), (162, [100, 117, 112], [16, 1, 0, 1, 1]), (165, [112, 111, 112], [17, 1, 0, 1, 1]), (168, [101, 120, 99, 104], [18, 2, 0, 1, 1]), (171, [97, 100, 100], [19, 2, 1, 1, 1]), (174, [115, 117, 98], [20, 2, 1, 1, 1]), (177, [109, 117, 108], [21, 2, 1, 1, 1]), (180, [100, 105, 118], [22, 2, 1, 1, 1])]
def opE (i_z : Nat) : Nat := (opL.getD i_z (0, [], [])).1
def opB (i_z : Nat) : List Nat := (opL.getD i_z (0, [], [])).2.1
def opV (i_z : Nat) : List Nat := (opL.getD i_z (0, [], [])).2.2
def wdT (i_z : Nat) : Term := .string "PageInterpreter$Operator" (opE i_z)
def byT (i_z : Nat) : Term := .field (wdT i_z) "java/lang/String" "value" "[B"
def wdS (s_z : State) (b_z i_z : Nat) : Nat := encV ((wdT i_z).eval #[Value.ref b_z] s_z none [] s_z)
def byS (s_z : State) (b_z i_z : Nat) : Nat := encV ((byT i_z).eval #[Value.ref b_z] s_z none [] s_z)
def kdS (s_z : State) (b_z r_z : Nat) : Nat :=
  if r_z = 0 then 0 else if r_z = b_z + 1 then 104 else if r_z = svS s_z b_z 0 then 250 else if r_z = svS s_z b_z 1 then 104
  else if (List.range 23).any (fun i_z => r_z == svS s_z b_z (3 + i_z)) = true then 41
  else if (List.range 23).any (fun i_z => r_z == wdS s_z b_z i_z) = true then 42
  else if (List.range 23).any (fun i_z => r_z == byS s_z b_z i_z) = true then 105 else 0
def rdS (s_z : State) (kd r_z k_z : Nat) : Option Value :=
  if kd = 41 ∨ kd = 42 then (match s_z.fieldFound? (rT (kd - 1) k_z).1 (rT (kd - 1) k_z).2.1 (rT (kd - 1) k_z).2.2 with
    | some (_, _, _, fd_z) => (s_z.heap[r_z - 1]?).bind (fun cl_z => cl_z.slots[fd_z.slot]?)
    | none => none)
  else (s_z.heap[r_z - 1]?).bind (fun cl_z => cl_z.slots[k_z]?)
def memS (s_z : State) (b_z : Nat) : Mem := (kdS s_z b_z, fun r_z => ((((s_z.heap[r_z - 1]?).map (fun cl_z => cl_z.slots.size)).getD 0 : Nat) : Int), fun r_z k_z => vInt (rdS s_z (kdS s_z b_z r_z) r_z k_z.toNat), fun _ _ => 0, fun r_z k_z => encV (rdS s_z (kdS s_z b_z r_z) r_z k_z.toNat), s_z.heap.size, 0)
def envS (s_z : State) (b_z : Nat) : Env0 := (s_z.heap.size, svS s_z b_z)
/-! what the words say: each at its place in the flat list -/
def smapL : List Nat := [1, 3, 14, 5, 7, 8, 6, 9, 10, 11, 12, 13, 15, 16, 2, 4, 17, 18, 19, 20, 21, 22, 23]
def posL : List (List Nat) := [[61, 7, 38, 63, 62, 64, 65, 66, 67, 282, 283, 284, 285], [117, 8, 39, 119, 118, 120, 121, 122, 123, 349, 350, 351, 352], [124, 9, 40, 126, 125, 127, 128, 129, 130, 360, 361, 362, 363], [82, 10, 41, 84, 83, 85, 86, 87, 88, 308, 309, 310, 311], [131, 11, 42, 133, 132, 134, 135, 136, 137, 370, 371, 372, 373], [138, 12, 43, 140, 139, 141, 142, 143, 144, 378, 379, 380, 381], [145, 13, 44, 147, 146, 148, 149, 150, 151, 387, 388, 389, 390], [152, 14, 45, 154, 153, 155, 156, 157, 158, 395, 396, 397, 398], [89, 15, 46, 91, 90, 92, 93, 94, 95, 316, 317, 318, 319], [159, 16, 47, 161, 160, 162, 163, 164, 165, 403, 404, 405, 406], [103, 17, 48, 105, 104, 106, 107, 108, 109, 333, 334, 335, 336], [96, 18, 49, 98, 97, 99, 100, 101, 102, 325, 326, 327, 328], [166, 19, 50, 168, 167, 169, 170, 171, 172, 411, 412, 413, 414], [173, 20, 51, 175, 174, 176, 177, 178, 179, 420, 421, 422, 423], [68, 21, 52, 70, 69, 71, 72, 73, 74, 290, 291, 292, 293], [75, 22, 53, 77, 76, 78, 79, 80, 81, 300, 301, 302, 303], [180, 23, 54, 182, 181, 183, 184, 185, 186, 428, 429, 430, 431], [187, 24, 55, 189, 188, 190, 191, 192, 193, 435, 436, 437, 438], [194, 25, 56, 196, 195, 197, 198, 199, 200, 442, 443, 444, 445], [201, 26, 57, 203, 202, 204, 205, 206, 207, 450, 451, 452, 453], [208, 27, 58, 210, 209, 211, 212, 213, 214, 457, 458, 459, 460], [215, 28, 59, 217, 216, 218, 219, 220, 221, 464, 465, 466, 467], [110, 29, 60, 112, 111, 113, 114, 115, 116, 342, 343, 344, 345]]
def posB : List (List Nat) := [[286, 287, 288, 289], [353, 354, 355, 356, 357, 358, 359], [364, 365, 366, 367, 368, 369], [312, 313, 314, 315], [374, 375, 376, 377], [382, 383, 384, 385, 386], [391, 392, 393, 394], [399, 400, 401, 402], [320, 321, 322, 323, 324], [407, 408, 409, 410], [337, 338, 339, 340, 341], [329, 330, 331, 332], [415, 416, 417, 418, 419], [424, 425, 426, 427], [294, 295, 296, 297, 298, 299], [304, 305, 306, 307], [432, 433, 434], [439, 440, 441], [446, 447, 448, 449], [454, 455, 456], [461, 462, 463], [468, 469, 470], [346, 347, 348]]
def posQ : List Nat := [4, 5, 3, 36, 37, 31, 30]
def nwN : List Cond := flatC narrow_1
def pkN (p_z : Nat) (w_z : Cond) : Bool := decide (nwN[p_z]? = some w_z)
def pkP (i_z k_z : Nat) : Nat := (posL.getD i_z []).getD k_z 0
theorem nw_op : (List.range 23).all (fun i_z => pkN (pkP i_z 0) (.exactly (tvT (3 + i_z)) "PageInterpreter$Operator") && pkN (pkP i_z 1) (.eq (.elem (tvT 0) (.int (Int32.ofNat i_z))) (tvT (3 + i_z))) && pkN (pkP i_z 2) (.eq (.elem (tvT 1) (.int (Int32.ofNat i_z))) (.int (Int32.ofNat (smapL.getD i_z 0)))) && pkN (pkP i_z 3) (.eq (.field (tvT (3 + i_z)) (rT 40 1).1 (rT 40 1).2.1 (rT 40 1).2.2) (wdT i_z))) = true := by decide +kernel
def vix (k_z : Nat) : Nat := if k_z = 0 then 0 else k_z - 1
theorem nw_fd : (List.range 23).all (fun i_z => [0, 2, 3, 4, 5].all (fun k_z => pkN (pkP i_z (4 + vix k_z)) (.eq (.field (tvT (3 + i_z)) (rT 40 k_z).1 (rT 40 k_z).2.1 (rT 40 k_z).2.2) (.int (Int32.ofNat ((opV i_z).getD (vix k_z) 0)))))) = true := by decide +kernel
theorem nw_wd : (List.range 23).all (fun i_z => pkN (pkP i_z 9) (.exactly (wdT i_z) "java/lang/String") && pkN (pkP i_z 10) (.eq (.field (wdT i_z) (rT 41 1).1 (rT 41 1).2.1 (rT 41 1).2.2) (.int (Int32.ofNat 0))) && pkN (pkP i_z 11) (.arrayOf (byT i_z) .byte) && pkN (pkP i_z 12) (.eq (.length (byT i_z)) (.int (Int32.ofNat (opB i_z).length)))) = true := by decide +kernel
theorem nw_by : (List.range 23).all (fun i_z => (List.range (opB i_z).length).all (fun k_z => pkN ((posB.getD i_z []).getD k_z 0) (.eq (.elem (byT i_z) (.int (Int32.ofNat k_z))) (.int (Int32.ofNat ((opB i_z).getD k_z 0)))))) = true := by decide +kernel
theorem nw_01 : (pkN (posQ.getD 0 0) (.arrayOf (tvT 0) (.object "PageInterpreter$Operator")) && pkN (posQ.getD 1 0) (.eq (.length (tvT 0)) (.int (Int32.ofNat 23))) && pkN (posQ.getD 2 0) (.exactly (tvT 0) "[LPageInterpreter$Operator;") && pkN (posQ.getD 3 0) (.arrayOf (tvT 1) .int) && pkN (posQ.getD 4 0) (.eq (.length (tvT 1)) (.int (Int32.ofNat 23))) && pkN (posQ.getD 5 0) (.isRef (tvT 2)) && pkN (posQ.getD 6 0) (.eq (.static stiN.1 stiN.2.1 stiN.2.2) (.int 1))) = true := by decide +kernel
theorem pkN_ok {p_z : Nat} {w_z : Cond} (h_z : pkN p_z w_z = true) : w_z ∈ nwN := List.mem_of_getElem? (of_decide_eq_true h_z)
theorem nw_st : ((List.range 26).all (fun i_z => decide (Cond.laysStatic (stN i_z).1 (stN i_z).2.1 (stN i_z).2.2 ∈ lw_tbl) && decide (Cond.initialized (stN i_z).1 ∈ lw_tbl)) && decide (Cond.laysStatic stiN.1 stiN.2.1 stiN.2.2 ∈ lw_tbl) && decide (Cond.initialized stiN.1 ∈ lw_tbl)) = true := by decide +kernel
theorem nw_ty : (decide (Cond.arrayClass .int ∈ lw_tbl) && decide (Cond.arrayClass .long ∈ lw_tbl) && decide (Cond.arrayClass .boolean ∈ lw_tbl) && decide (Cond.arrayOver (.object "PageInterpreter$State") ∈ lw_tbl) && decide (Cond.arrayOver (.object "PageInterpreter$Frame") ∈ lw_tbl) && decide (Cond.arrayOver (.object "PageInterpreter$Graphics") ∈ lw_tbl) && decide (Cond.arrayOver (.object "PageInterpreter$Program") ∈ lw_tbl) && decide (Cond.arrayOver (.object "PageInterpreter$Operator") ∈ lw_tbl)) = true := by decide +kernel
/-! reading the words -/
theorem t_fld {A_z : Array Value} {s_z : State} {t_z : Term} {o n_z d_z : String} {v_z : Value} (hv : (Term.field t_z o n_z d_z).eval A_z s_z none [] s_z = some v_z) : ∃ (a_z : Nat) (cf_z : ClassId) (kf : Class) (fi : Nat) (fd_z : Field) (cl_z : Cell), t_z.eval A_z s_z none [] s_z = some (.ref a_z) ∧ s_z.fieldFound? o n_z d_z = some (cf_z, kf, fi, fd_z) ∧ fd_z.isStatic = false ∧ s_z.heap[a_z]? = some cl_z ∧ cl_z.vm ≠ .unknown ∧ cl_z.vm.isStatics = false ∧ cl_z.slots[fd_z.slot]? = some v_z := by
  obtain ⟨a_z, ha_z⟩ := Term.field_ref hv
  cases hi : s_z.fieldFound? o n_z d_z with
  | none => simp [Term.eval, ha_z, State.fieldOf?, State.fieldNamed?, hi] at hv
  | some x_z =>
    obtain ⟨cf_z, kf, fi, fd_z⟩ := x_z
    obtain ⟨h1, cl_z, h2, h3, h4, -, h6⟩ := Term.field_spec hi ha_z hv
    exact ⟨a_z, cf_z, kf, fi, fd_z, cl_z, ha_z, rfl, h1, h2, h3, h4, h6⟩
theorem t_elm {A_z : Array Value} {s_z : State} {t_z : Term} {k_z : Nat} (hk : k_z < 2147483648) {v_z : Value} (hv : (Term.elem t_z (.int (Int32.ofNat k_z))).eval A_z s_z none [] s_z = some v_z) : ∃ (a_z : Nat) (cl_z : Cell), t_z.eval A_z s_z none [] s_z = some (.ref a_z) ∧ s_z.heap[a_z]? = some cl_z ∧ cl_z.vm ≠ .unknown ∧ cl_z.slots[k_z]? = some v_z := by
  cases ht : t_z.eval A_z s_z none [] s_z with
  | none => simp [Term.eval, ht] at hv
  | some w_z =>
    cases w_z with
    | ref a_z =>
      simp only [Term.eval, ht, Option.bind_eq_bind, Option.bind_some] at hv
      split at hv
      · cases hv
      · obtain ⟨cl_z, h1, h2⟩ := Option.bind_eq_some_iff.mp hv
        obtain ⟨h3, h4, -⟩ := State.arrayAt?_spec h1
        rw [Int32.toNatClampNeg_ofNat_of_lt hk] at h2
        exact ⟨a_z, cl_z, rfl, h3, h4, h2⟩
    | _ => simp [Term.eval, ht] at hv
theorem t_len {A_z : Array Value} {s_z : State} {t_z : Term} {k_z : Nat} (hk : k_z < 2147483648) (hv : (Term.length t_z).eval A_z s_z none [] s_z = some (.int (Int32.ofNat k_z))) : ∃ (a_z : Nat) (cl_z : Cell), t_z.eval A_z s_z none [] s_z = some (.ref a_z) ∧ s_z.heap[a_z]? = some cl_z ∧ cl_z.vm ≠ .unknown ∧ cl_z.slots.size = k_z := by
  cases ht : t_z.eval A_z s_z none [] s_z with
  | none => simp [Term.eval, ht] at hv
  | some w_z =>
    cases w_z with
    | ref a_z =>
      simp only [Term.eval, ht, Option.bind_eq_bind, Option.bind_some] at hv
      obtain ⟨cl_z, h1, h2⟩ := Option.bind_eq_some_iff.mp hv
      obtain ⟨h3, h4, -⟩ := State.arrayAt?_spec h1
      refine ⟨a_z, cl_z, rfl, h3, h4, ?_⟩
      split at h2
      · rename_i hz
        have e1_z : Int32.ofNat cl_z.slots.size = Int32.ofNat k_z := by
          have h5 := Option.some.inj h2
          injection h5
        have e2_z := (Int32.ofNat_le_ofNat (by simpa using hz) hk).mp (by rw [e1_z]; exact Int32.le_refl _)
        have e3_z := (Int32.ofNat_le_ofNat hk (by simpa using hz)).mp (by rw [e1_z]; exact Int32.le_refl _)
        omega
      · cases h2
    | _ => simp [Term.eval, ht] at hv
theorem encV_pos {o : Option Value} {r_z : Nat} (h_z : encV o = r_z) (hr : r_z ≠ 0) : o = some (.ref (r_z - 1)) := by
  subst h_z
  cases o with
  | none => exact absurd rfl hr
  | some v_z =>
    cases v_z with
    | ref q_z => rfl
    | _ => exact absurd rfl hr
