/-! THE SMALL MACHINE, part 1: its values (whole numbers in their ranges; an address a is a + 1, null is 0), its memory, one row of code. Own work. -/
abbrev AV : Type := Int ⊕ (Int ⊕ (Nat ⊕ Unit))
abbrev a_i (z : Int) : AV := .inl z
abbrev a_l (z : Int) : AV := .inr (.inl z)
abbrev a_r (r : Nat) : AV := .inr (.inr (.inl r))
abbrev a_u : AV := .inr (.inr (.inr ()))
/-- kinds, lengths, ints, longs, references, the heap's size, the slots made so far -/
abbrev Mem : Type := (Nat → Nat) × (Nat → Int) × (Nat → Int → Int) × (Nat → Int → Int) × (Nat → Int → Nat) × Nat × Nat
def gK (M : Mem) (r : Nat) : Nat := M.1 r
def gN (M : Mem) (r : Nat) : Int := M.2.1 r
def gI (M : Mem) (r : Nat) (k : Int) : Int := M.2.2.1 r k
def gL (M : Mem) (r : Nat) (k : Int) : Int := M.2.2.2.1 r k
def gR (M : Mem) (r : Nat) (k : Int) : Nat := M.2.2.2.2.1 r k
def gz (M : Mem) : Nat := M.2.2.2.2.2.1
def gs (M : Mem) : Nat := M.2.2.2.2.2.2
def uI (M : Mem) (r : Nat) (k : Int) (v : Int) : Mem := (M.1, M.2.1, fun a j => if a = r ∧ j = k then v else M.2.2.1 a j, M.2.2.2)
def uL (M : Mem) (r : Nat) (k : Int) (v : Int) : Mem := (M.1, M.2.1, M.2.2.1, fun a j => if a = r ∧ j = k then v else M.2.2.2.1 a j, M.2.2.2.2)
def uR (M : Mem) (r : Nat) (k : Int) (v : Nat) : Mem := (M.1, M.2.1, M.2.2.1, M.2.2.2.1, fun a j => if a = r ∧ j = k then v else M.2.2.2.2.1 a j, M.2.2.2.2.2)
/-- a new cell: its kind, its length, its slots -/
def uN (M : Mem) (c : Nat) (n : Int) (ns : Nat) : Mem := (fun a => if a = M.2.2.2.2.2.1 + 1 then c else M.1 a, fun a => if a = M.2.2.2.2.2.1 + 1 then n else M.2.1 a, fun a j => if a = M.2.2.2.2.2.1 + 1 then 0 else M.2.2.1 a j, fun a j => if a = M.2.2.2.2.2.1 + 1 then 0 else M.2.2.2.1 a j, fun a j => if a = M.2.2.2.2.2.1 + 1 then 0 else M.2.2.2.2.1 a j, M.2.2.2.2.2.1 + 1, M.2.2.2.2.2.2 + ns)
/-- n places of the row b from j on come into the row a from i on -/
def uCI (M : Mem) (a : Nat) (i : Int) (b : Nat) (j n : Int) : Mem := (M.1, M.2.1, fun r k => if r = a ∧ i ≤ k ∧ k < i + n then M.2.2.1 b (j + (k - i)) else M.2.2.1 r k, M.2.2.2)
def uCL (M : Mem) (a : Nat) (i : Int) (b : Nat) (j n : Int) : Mem := (M.1, M.2.1, M.2.2.1, fun r k => if r = a ∧ i ≤ k ∧ k < i + n then M.2.2.2.1 b (j + (k - i)) else M.2.2.2.1 r k, M.2.2.2.2)
theorem gK_uI (M : Mem) (r : Nat) (k v : Int) : gK (uI M r k v) = gK M := rfl
theorem gK_uL (M : Mem) (r : Nat) (k v : Int) : gK (uL M r k v) = gK M := rfl
theorem gK_uR (M : Mem) (r : Nat) (k : Int) (v : Nat) : gK (uR M r k v) = gK M := rfl
theorem gK_uCI (M : Mem) (a : Nat) (i : Int) (b : Nat) (j n : Int) : gK (uCI M a i b j n) = gK M := rfl
theorem gK_uCL (M : Mem) (a : Nat) (i : Int) (b : Nat) (j n : Int) : gK (uCL M a i b j n) = gK M := rfl
theorem gK_uN (M : Mem) (c : Nat) (n : Int) (ns : Nat) (r : Nat) : gK (uN M c n ns) r = if r = gz M + 1 then c else gK M r := rfl
theorem gN_uI (M : Mem) (r : Nat) (k v : Int) : gN (uI M r k v) = gN M := rfl
theorem gN_uL (M : Mem) (r : Nat) (k v : Int) : gN (uL M r k v) = gN M := rfl
theorem gN_uR (M : Mem) (r : Nat) (k : Int) (v : Nat) : gN (uR M r k v) = gN M := rfl
theorem gN_uCI (M : Mem) (a : Nat) (i : Int) (b : Nat) (j n : Int) : gN (uCI M a i b j n) = gN M := rfl
theorem gN_uCL (M : Mem) (a : Nat) (i : Int) (b : Nat) (j n : Int) : gN (uCL M a i b j n) = gN M := rfl
theorem gN_uN (M : Mem) (c : Nat) (n : Int) (ns : Nat) (r : Nat) : gN (uN M c n ns) r = if r = gz M + 1 then n else gN M r := rfl
theorem gI_uI (M : Mem) (r : Nat) (k v : Int) (a : Nat) (j : Int) : gI (uI M r k v) a j = if a = r ∧ j = k then v else gI M a j := rfl
theorem gI_uL (M : Mem) (r : Nat) (k v : Int) : gI (uL M r k v) = gI M := rfl
theorem gI_uR (M : Mem) (r : Nat) (k : Int) (v : Nat) : gI (uR M r k v) = gI M := rfl
theorem gI_uCI (M : Mem) (a : Nat) (i : Int) (b : Nat) (j n : Int) (r : Nat) (k : Int) : gI (uCI M a i b j n) r k = if r = a ∧ i ≤ k ∧ k < i + n then gI M b (j + (k - i)) else gI M r k := rfl
theorem gI_uCL (M : Mem) (a : Nat) (i : Int) (b : Nat) (j n : Int) : gI (uCL M a i b j n) = gI M := rfl
theorem gI_uN (M : Mem) (c : Nat) (n : Int) (ns : Nat) (r : Nat) (k : Int) : gI (uN M c n ns) r k = if r = gz M + 1 then 0 else gI M r k := rfl
theorem gL_uI (M : Mem) (r : Nat) (k v : Int) : gL (uI M r k v) = gL M := rfl
theorem gL_uL (M : Mem) (r : Nat) (k v : Int) (a : Nat) (j : Int) : gL (uL M r k v) a j = if a = r ∧ j = k then v else gL M a j := rfl
theorem gL_uR (M : Mem) (r : Nat) (k : Int) (v : Nat) : gL (uR M r k v) = gL M := rfl
theorem gL_uCI (M : Mem) (a : Nat) (i : Int) (b : Nat) (j n : Int) : gL (uCI M a i b j n) = gL M := rfl
theorem gL_uCL (M : Mem) (a : Nat) (i : Int) (b : Nat) (j n : Int) (r : Nat) (k : Int) : gL (uCL M a i b j n) r k = if r = a ∧ i ≤ k ∧ k < i + n then gL M b (j + (k - i)) else gL M r k := rfl
theorem gL_uN (M : Mem) (c : Nat) (n : Int) (ns : Nat) (r : Nat) (k : Int) : gL (uN M c n ns) r k = if r = gz M + 1 then 0 else gL M r k := rfl
theorem gR_uI (M : Mem) (r : Nat) (k v : Int) : gR (uI M r k v) = gR M := rfl
theorem gR_uL (M : Mem) (r : Nat) (k v : Int) : gR (uL M r k v) = gR M := rfl
theorem gR_uR (M : Mem) (r : Nat) (k : Int) (v : Nat) (a : Nat) (j : Int) : gR (uR M r k v) a j = if a = r ∧ j = k then v else gR M a j := rfl
theorem gR_uCI (M : Mem) (a : Nat) (i : Int) (b : Nat) (j n : Int) : gR (uCI M a i b j n) = gR M := rfl
theorem gR_uCL (M : Mem) (a : Nat) (i : Int) (b : Nat) (j n : Int) : gR (uCL M a i b j n) = gR M := rfl
theorem gR_uN (M : Mem) (c : Nat) (n : Int) (ns : Nat) (r : Nat) (k : Int) : gR (uN M c n ns) r k = if r = gz M + 1 then 0 else gR M r k := rfl
theorem gz_uI (M : Mem) (r : Nat) (k v : Int) : gz (uI M r k v) = gz M := rfl
theorem gz_uL (M : Mem) (r : Nat) (k v : Int) : gz (uL M r k v) = gz M := rfl
theorem gz_uR (M : Mem) (r : Nat) (k : Int) (v : Nat) : gz (uR M r k v) = gz M := rfl
theorem gz_uCI (M : Mem) (a : Nat) (i : Int) (b : Nat) (j n : Int) : gz (uCI M a i b j n) = gz M := rfl
theorem gz_uCL (M : Mem) (a : Nat) (i : Int) (b : Nat) (j n : Int) : gz (uCL M a i b j n) = gz M := rfl
theorem gz_uN (M : Mem) (c : Nat) (n : Int) (ns : Nat) : gz (uN M c n ns) = gz M + 1 := rfl
theorem gs_uI (M : Mem) (r : Nat) (k v : Int) : gs (uI M r k v) = gs M := rfl
theorem gs_uL (M : Mem) (r : Nat) (k v : Int) : gs (uL M r k v) = gs M := rfl
theorem gs_uR (M : Mem) (r : Nat) (k : Int) (v : Nat) : gs (uR M r k v) = gs M := rfl
theorem gs_uCI (M : Mem) (a : Nat) (i : Int) (b : Nat) (j n : Int) : gs (uCI M a i b j n) = gs M := rfl
theorem gs_uCL (M : Mem) (a : Nat) (i : Int) (b : Nat) (j n : Int) : gs (uCL M a i b j n) = gs M := rfl
theorem gs_uN (M : Mem) (c : Nat) (n : Int) (ns : Nat) : gs (uN M c n ns) = gs M + ns := rfl
def inI (z : Int) : Prop := -2147483648 ≤ z ∧ z ≤ 2147483647
def inL (z : Int) : Prop := -9223372036854775808 ≤ z ∧ z ≤ 9223372036854775807
/-- what the machine's own bit rows answer -/
def zAnd (x y : Int) : Int := (Int32.ofInt x &&& Int32.ofInt y).toInt
def zShr (x y : Int) : Int := (Int32.ofInt x >>> (Int32.ofInt y &&& 31)).toInt
def zChr (x : Int) : Int := ((Int32.ofInt x).toUInt32 % 65536).toInt32.toInt
def zLor (x y : Int) : Int := (Int64.ofInt x ||| Int64.ofInt y).toInt
def zLxor (x y : Int) : Int := (Int64.ofInt x ^^^ Int64.ofInt y).toInt
def zLshl (x y : Int) : Int := (Int64.ofInt x <<< ((Int32.ofInt y).toInt64 &&& 63)).toInt
def zLshr (x y : Int) : Int := (Int64.ofInt x >>> ((Int32.ofInt y).toInt64 &&& 63)).toInt
def zL2i (x : Int) : Int := (Int64.ofInt x).toInt32.toInt
def zCmp (x y : Int) : Int := if x < y then -1 else if x = y then 0 else 1
/-- one row of code: its place, the instruction, its length, three numbers that say what it names -/
abbrev CE : Type := Nat × Instr × Nat × Nat × Nat × Int
def killL : AV → AV
  | .inr (.inl _) => a_u
  | v => v
def sto1 : List AV → Nat → AV → List AV
  | [], _, _ => []
  | _ :: xs, 0, v => v :: xs
  | x :: xs, 1, v => killL x :: sto1 xs 0 v
  | x :: xs, n + 2, v => x :: sto1 xs (n + 1) v
def sto2 : List AV → Nat → AV → List AV
  | [], _, _ => []
  | [_], 0, v => [v]
  | _ :: _ :: xs, 0, v => v :: a_u :: xs
  | x :: xs, 1, v => killL x :: sto2 xs 0 v
  | x :: xs, n + 2, v => x :: sto2 xs (n + 1) v
/-- the locals with which a method begins -/
def ini0 : List AV → List AV
  | [] => []
  | .inr (.inl z) :: vs => a_l z :: a_u :: ini0 vs
  | v :: vs => v :: ini0 vs
def ini (n : Nat) (vs : List AV) : List AV := ini0 vs ++ List.replicate (n - (ini0 vs).length) a_u
def catv : AV → Nat
  | .inr (.inl _) => 2
  | _ => 1
def cat8 (st : List AV) : Bool := Nat.ble ((st.map catv).sum) 8
/-- the n topmost values, the lowest first, and the rest -/
def popn : Nat → List AV → List AV → Option (List AV × List AV)
  | 0, st, acc => some (acc, st)
  | _ + 1, [], _ => none
  | n + 1, v :: st, acc => popn n st (v :: acc)
def tgt (pc : Nat) (off : Int) : Nat := ((pc : Int) + off).toNat
def sfx : List CE → Nat → List CE
  | [], _ => []
  | e :: L, pc => match Nat.beq e.1 pc with
    | true => e :: L
    | false => sfx L pc
