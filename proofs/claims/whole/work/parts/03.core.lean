/-! THE SMALL MACHINE, part 3: what one row of code does, as a transformer of what must hold behind it; methods by the least meaning. Own work. -/
def zcmp : ClassFile.Cond → Int → Int → Prop
  | .eq, x, y => x = y
  | .ne, x, y => ¬ x = y
  | .lt, x, y => x < y
  | .ge, x, y => y ≤ x
  | .gt, x, y => y < x
  | .le, x, y => x ≤ y
def swT (K : Nat → Prop) (pc : Nat) (x : Int) : Int → List Int → Prop
  | _, [] => True
  | i, o :: os => (x = i → K (tgt pc o)) ∧ swT K pc x (i + 1) os
def swL (K : Nat → Prop) (pc : Nat) (x : Int) (d : Int) : List (Int × Int) → Prop
  | [] => K (tgt pc d)
  | p :: ps => (x = p.1 → K (tgt pc p.2)) ∧ (¬ x = p.1 → swL K pc x d ps)
def fld (b : Nat) (M : Mem) (r : Nat) (c : Int) : AV := match b with
  | 1 => a_l (gL M r c)
  | 2 => a_r (gR M r c)
  | _ => a_i (gI M r c)
/-- kinds of rows: 100 ints, 101 longs, 102 truths, 104 ints and 105 bytes that nobody writes; 110 + i, 250: rows of references -/
def kInt (k : Nat) : Prop := k = 100 ∨ k = 104
def kByt (k : Nat) : Prop := k = 102 ∨ k = 105
abbrev Env0 : Type := Nat × (Nat → Nat)
def isT (z : Int) : Prop := z = 0 ∨ z = 1
def retOk (a : Nat) (z : Int) : Prop := match a with
  | 0 => True
  | 1 => isT z
  | 2 => 0 ≤ z ∧ z ≤ 65535
  | _ => -128 ≤ z ∧ z ≤ 127
def ldI (k : Nat) (ls : List AV) (f : AV → Prop) : Prop := match ls[k]? with
  | some (.inl z) => f (a_i z)
  | _ => False
def ldL (k : Nat) (ls : List AV) (f : AV → Prop) : Prop := match ls[k]? with
  | some (.inr (.inl z)) => f (a_l z)
  | _ => False
def ldR (k : Nat) (ls : List AV) (f : AV → Prop) : Prop := match ls[k]? with
  | some (.inr (.inr (.inl z))) => f (a_r z)
  | _ => False
def roomOk (G : Env0) (M : Mem) (n : Nat) : Prop := gz M + 1 ≤ G.1 + 600000 ∧ gs M + n ≤ 7302249
def wcall (a b : Nat) (c : Int) (st : List AV) (M : Mem) (kn : List AV → Mem → Prop) (kc : Nat → List AV → Mem → (Option AV → Mem → Prop) → Prop) : Prop :=
  match popn (b % 1000) st [] with
  | some (as, st') => (match cat8 st' && Nat.beq ((as.map catv).sum) (b / 1000) with
    | true => (match c with
      | .ofNat 0 => kc a as M (fun r M' => kn (r.toList ++ st') M')
      | c => (match as with
        | .inr (.inr (.inl r)) :: _ => gK M r = c.toNat ∧ kc a as M (fun r M' => kn (r.toList ++ st') M')
        | _ => False))
    | false => False)
  | none => False
/-- Object's own constructor; a copy of a row -/
def wspec (c : Int) (st : List AV) (M : Mem) (kn : List AV → Mem → Prop) : Prop := match c with
  | .negSucc 0 => (match st with
    | .inr (.inr (.inl r)) :: st => (match cat8 st with
      | true => ¬ r = 0 ∧ kn st M
      | false => False)
    | _ => False)
  | _ => (match st with
    | .inl n :: .inl j :: .inr (.inr (.inl b)) :: .inl i :: .inr (.inr (.inl a)) :: st => (match cat8 st with
      | true => ¬ a = b ∧ 0 ≤ i ∧ 0 ≤ j ∧ 0 ≤ n ∧ i + n ≤ gN M a ∧ j + n ≤ gN M b ∧
        ((gK M a = 100 ∧ gK M b = 100 ∧ kn st (uCI M b j a i n)) ∨ (gK M a = 101 ∧ gK M b = 101 ∧ kn st (uCL M b j a i n)))
      | false => False)
    | _ => False)
def wpi (G : Env0) (i : Instr) (pc a b : Nat) (c : Int) (ls st : List AV) (M : Mem) (kn : List AV → List AV → Mem → Prop) (kj : Nat → List AV → List AV → Mem → Prop) (kc : Nat → List AV → Mem → (Option AV → Mem → Prop) → Prop) (q : Option AV → Mem → Prop) : Prop :=
  match i with
  | .aconst_null => kn ls (a_r 0 :: st) M
  | .iconst z => kn ls (a_i z :: st) M
  | .bipush z => kn ls (a_i z :: st) M
  | .sipush z => kn ls (a_i z :: st) M
  | .lconst n => kn ls (a_l (n.val : Int) :: st) M
  | .ldc _ => kn ls (a_i c :: st) M
  | .ldc_w _ => kn ls (a_i c :: st) M
  | .ldc2_w _ => kn ls (a_l c :: st) M
  | .iload_n k => ldI k.val ls fun v => kn ls (v :: st) M
  | .iload k => ldI k ls fun v => kn ls (v :: st) M
  | .lload_n k => ldL k.val ls fun v => kn ls (v :: st) M
  | .lload k => ldL k ls fun v => kn ls (v :: st) M
  | .aload_n k => ldR k.val ls fun v => kn ls (v :: st) M
  | .aload k => ldR k ls fun v => kn ls (v :: st) M
  | .istore_n k => (match st with
    | .inl z :: st => kn (sto1 ls k.val (a_i z)) st M
    | _ => False)
  | .istore k => (match st with
    | .inl z :: st => kn (sto1 ls k (a_i z)) st M
    | _ => False)
  | .lstore_n k => (match st with
    | .inr (.inl z) :: st => kn (sto2 ls k.val (a_l z)) st M
    | _ => False)
  | .lstore k => (match st with
    | .inr (.inl z) :: st => kn (sto2 ls k (a_l z)) st M
    | _ => False)
  | .astore_n k => (match st with
    | .inr (.inr (.inl z)) :: st => kn (sto1 ls k.val (a_r z)) st M
    | _ => False)
  | .astore k => (match st with
    | .inr (.inr (.inl z)) :: st => kn (sto1 ls k (a_r z)) st M
    | _ => False)
  | .iinc k d => (match ls[k]? with
    | some (.inl z) => inI (z + d) ∧ kn (sto1 ls k (a_i (z + d))) st M
    | _ => False)
  | .iadd => (match st with
    | .inl y :: .inl x :: st => inI (x + y) ∧ kn ls (a_i (x + y) :: st) M
    | _ => False)
  | .isub => (match st with
    | .inl y :: .inl x :: st => inI (x - y) ∧ kn ls (a_i (x - y) :: st) M
    | _ => False)
  | .imul => (match st with
    | .inl y :: .inl x :: st => inI (x * y) ∧ kn ls (a_i (x * y) :: st) M
    | _ => False)
  | .idiv => (match st with
    | .inl y :: .inl x :: st => ¬ y = 0 ∧ inI (Int.tdiv x y) ∧ kn ls (a_i (Int.tdiv x y) :: st) M
    | _ => False)
  | .irem => (match st with
    | .inl y :: .inl x :: st => ¬ y = 0 ∧ inI (Int.tdiv x y) ∧ kn ls (a_i (Int.tmod x y) :: st) M
    | _ => False)
  | .ineg => (match st with
    | .inl x :: st => inI (-x) ∧ kn ls (a_i (-x) :: st) M
    | _ => False)
  | .iand => (match st with
    | .inl y :: .inl x :: st => kn ls (a_i (zAnd x y) :: st) M
    | _ => False)
  | .ishr => (match st with
    | .inl y :: .inl x :: st => kn ls (a_i (zShr x y) :: st) M
    | _ => False)
  | .i2c => (match st with
    | .inl x :: st => kn ls (a_i (zChr x) :: st) M
    | _ => False)
  | .ladd => (match st with
    | .inr (.inl y) :: .inr (.inl x) :: st => inL (x + y) ∧ kn ls (a_l (x + y) :: st) M
    | _ => False)
  | .lsub => (match st with
    | .inr (.inl y) :: .inr (.inl x) :: st => inL (x - y) ∧ kn ls (a_l (x - y) :: st) M
    | _ => False)
  | .lmul => (match st with
    | .inr (.inl y) :: .inr (.inl x) :: st => inL (x * y) ∧ kn ls (a_l (x * y) :: st) M
    | _ => False)
  | .ldiv => (match st with
    | .inr (.inl y) :: .inr (.inl x) :: st => ¬ y = 0 ∧ inL (Int.tdiv x y) ∧ kn ls (a_l (Int.tdiv x y) :: st) M
    | _ => False)
  | .lrem => (match st with
    | .inr (.inl y) :: .inr (.inl x) :: st => ¬ y = 0 ∧ inL (Int.tdiv x y) ∧ kn ls (a_l (Int.tmod x y) :: st) M
    | _ => False)
  | .lneg => (match st with
    | .inr (.inl x) :: st => inL (-x) ∧ kn ls (a_l (-x) :: st) M
    | _ => False)
  | .lor => (match st with
    | .inr (.inl y) :: .inr (.inl x) :: st => kn ls (a_l (zLor x y) :: st) M
    | _ => False)
  | .lxor => (match st with
    | .inr (.inl y) :: .inr (.inl x) :: st => kn ls (a_l (zLxor x y) :: st) M
    | _ => False)
  | .lshl => (match st with
    | .inl y :: .inr (.inl x) :: st => kn ls (a_l (zLshl x y) :: st) M
    | _ => False)
  | .lshr => (match st with
    | .inl y :: .inr (.inl x) :: st => kn ls (a_l (zLshr x y) :: st) M
    | _ => False)
  | .i2l => (match st with
    | .inl x :: st => kn ls (a_l x :: st) M
    | _ => False)
  | .l2i => (match st with
    | .inr (.inl x) :: st => kn ls (a_i (zL2i x) :: st) M
    | _ => False)
  | .lcmp => (match st with
    | .inr (.inl y) :: .inr (.inl x) :: st => kn ls (a_i (zCmp x y) :: st) M
    | _ => False)
  | .dup => (match st with
    | .inl x :: st => kn ls (a_i x :: a_i x :: st) M
    | .inr (.inr (.inl x)) :: st => kn ls (a_r x :: a_r x :: st) M
    | _ => False)
  | .dup2 => (match st with
    | .inl x :: .inr (.inr (.inl y)) :: st => kn ls (a_i x :: a_r y :: a_i x :: a_r y :: st) M
    | _ => False)
  | .pop => (match st with
    | .inl _ :: st => kn ls st M
    | _ => False)
  | .ifCond k o => (match st with
    | .inl x :: st => (zcmp k x 0 → kj (tgt pc o) ls st M) ∧ (¬ zcmp k x 0 → kn ls st M)
    | _ => False)
  | .if_icmp k o => (match st with
    | .inl y :: .inl x :: st => (zcmp k x y → kj (tgt pc o) ls st M) ∧ (¬ zcmp k x y → kn ls st M)
    | _ => False)
  | .if_acmp .eq o => (match st with
    | .inr (.inr (.inl y)) :: .inr (.inr (.inl x)) :: st => (x = y → kj (tgt pc o) ls st M) ∧ (¬ x = y → kn ls st M)
    | _ => False)
  | .if_acmp .ne o => (match st with
    | .inr (.inr (.inl y)) :: .inr (.inr (.inl x)) :: st => (¬ x = y → kj (tgt pc o) ls st M) ∧ (x = y → kn ls st M)
    | _ => False)
  | .ifnull o => (match st with
    | .inr (.inr (.inl x)) :: st => (x = 0 → kj (tgt pc o) ls st M) ∧ (¬ x = 0 → kn ls st M)
    | _ => False)
  | .ifnonnull o => (match st with
    | .inr (.inr (.inl x)) :: st => (¬ x = 0 → kj (tgt pc o) ls st M) ∧ (x = 0 → kn ls st M)
    | _ => False)
  | .goto o => kj (tgt pc o) ls st M
  | .tableswitch d lo hi os => (match st with
    | .inl x :: st => (x < lo ∨ hi < x → kj (tgt pc d) ls st M) ∧ swT (fun t => kj t ls st M) pc x lo os.toList
    | _ => False)
  | .lookupswitch d ps => (match st with
    | .inl x :: st => swL (fun t => kj t ls st M) pc x d ps.toList
    | _ => False)
  | .getfield _ => (match st with
    | .inr (.inr (.inl r)) :: st => gK M r = a + 1 ∧ kn ls (fld b M r c :: st) M
    | _ => False)
  | .putfield _ => (match b, st with
    | 0, .inl v :: .inr (.inr (.inl r)) :: st => gK M r = a + 1 ∧ kn ls st (uI M r c v)
    | 1, .inr (.inl v) :: .inr (.inr (.inl r)) :: st => gK M r = a + 1 ∧ kn ls st (uL M r c v)
    | 2, .inr (.inr (.inl v)) :: .inr (.inr (.inl r)) :: st => gK M r = a + 1 ∧ kn ls st (uR M r c v)
    | 3, .inl v :: .inr (.inr (.inl r)) :: st => gK M r = a + 1 ∧ isT v ∧ kn ls st (uI M r c v)
    | _, _ => False)
  | .getstatic _ => (match b with
    | 2 => kn ls (a_r (G.2 a) :: st) M
    | _ => kn ls (a_i c :: st) M)
  | .arraylength => (match st with
    | .inr (.inr (.inl r)) :: st => 100 ≤ gK M r ∧ kn ls (a_i (gN M r) :: st) M
    | _ => False)
  | .iaload => (match st with
    | .inl j :: .inr (.inr (.inl r)) :: st => kInt (gK M r) ∧ 0 ≤ j ∧ j < gN M r ∧ kn ls (a_i (gI M r j) :: st) M
    | _ => False)
  | .laload => (match st with
    | .inl j :: .inr (.inr (.inl r)) :: st => gK M r = 101 ∧ 0 ≤ j ∧ j < gN M r ∧ kn ls (a_l (gL M r j) :: st) M
    | _ => False)
  | .baload => (match st with
    | .inl j :: .inr (.inr (.inl r)) :: st => kByt (gK M r) ∧ 0 ≤ j ∧ j < gN M r ∧ kn ls (a_i (gI M r j) :: st) M
    | _ => False)
  | .aaload => (match st with
    | .inl j :: .inr (.inr (.inl r)) :: st => 110 ≤ gK M r ∧ 0 ≤ j ∧ j < gN M r ∧ kn ls (a_r (gR M r j) :: st) M
    | _ => False)
  | .iastore => (match st with
    | .inl v :: .inl j :: .inr (.inr (.inl r)) :: st => gK M r = 100 ∧ 0 ≤ j ∧ j < gN M r ∧ kn ls st (uI M r j v)
    | _ => False)
  | .lastore => (match st with
    | .inr (.inl v) :: .inl j :: .inr (.inr (.inl r)) :: st => gK M r = 101 ∧ 0 ≤ j ∧ j < gN M r ∧ kn ls st (uL M r j v)
    | _ => False)
  | .bastore => (match st with
    | .inl v :: .inl j :: .inr (.inr (.inl r)) :: st => gK M r = 102 ∧ 0 ≤ j ∧ j < gN M r ∧ isT v ∧ kn ls st (uI M r j v)
    | _ => False)
  | .aastore => (match st with
    | .inr (.inr (.inl v)) :: .inl j :: .inr (.inr (.inl r)) :: st => (110 ≤ gK M r ∧ gK M r < 250) ∧ 0 ≤ j ∧ j < gN M r ∧ (v = 0 ∨ gK M v + 109 = gK M r) ∧ kn ls st (uR M r j v)
    | _ => False)
  | .new _ => roomOk G M b ∧ kn ls (a_r (gz M + 1) :: st) (uN M (a + 1) 0 b)
  | .newarray _ => (match st with
    | .inl n :: st => (0 ≤ n ∧ n ≤ 1000000) ∧ roomOk G M n.toNat ∧ kn ls (a_r (gz M + 1) :: st) (uN M a n n.toNat)
    | _ => False)
  | .anewarray _ => (match st with
    | .inl n :: st => (0 ≤ n ∧ n ≤ 1000000) ∧ roomOk G M n.toNat ∧ kn ls (a_r (gz M + 1) :: st) (uN M a n n.toNat)
    | _ => False)
  | .invokevirtual _ => (match c with
    | .ofNat _ => wcall a b c st M (fun st M => kn ls st M) kc
    | _ => False)
  | .invokestatic _ => (match c with
    | .ofNat _ => wcall a b c st M (fun st M => kn ls st M) kc
    | .negSucc 1 => wspec c st M (fun st M => kn ls st M)
    | _ => False)
  | .invokespecial _ => (match c with
    | .ofNat _ => wcall a b c st M (fun st M => kn ls st M) kc
    | .negSucc 0 => wspec c st M (fun st M => kn ls st M)
    | _ => False)
  | .ireturn => (match st with
    | [.inl z] => retOk a z ∧ q (some (a_i z)) M
    | _ => False)
  | .lreturn => (match st with
    | [.inr (.inl z)] => q (some (a_l z)) M
    | _ => False)
  | .areturn => (match st with
    | [.inr (.inr (.inl z))] => q (some (a_r z)) M
    | _ => False)
  | .return_ => (match st with
    | [] => q none M
    | _ => False)
  | _ => False
theorem swT_mono {K K' : Nat → Prop} (h : ∀ t, K t → K' t) {pc : Nat} {x : Int} : ∀ (os : List Int) (i : Int), swT K pc x i os → swT K' pc x i os
  | [], _, _ => trivial
  | _ :: os, i, q => ⟨fun e => h _ (q.1 e), swT_mono h os (i + 1) q.2⟩
theorem swL_mono {K K' : Nat → Prop} (h : ∀ t, K t → K' t) {pc : Nat} {x d : Int} : ∀ (ps : List (Int × Int)), swL K pc x d ps → swL K' pc x d ps
  | [], q => h _ q
  | _ :: ps, q => ⟨fun e => h _ (q.1 e), fun e => swL_mono h ps (q.2 e)⟩
theorem ldI_mono {k : Nat} {ls : List AV} {f g : AV → Prop} (h : ∀ v, f v → g v) (q : ldI k ls f) : ldI k ls g := by
  unfold ldI at q ⊢
  split at q
  · exact h _ q
  · exact q.elim
theorem ldL_mono {k : Nat} {ls : List AV} {f g : AV → Prop} (h : ∀ v, f v → g v) (q : ldL k ls f) : ldL k ls g := by
  unfold ldL at q ⊢
  split at q
  · exact h _ q
  · exact q.elim
theorem ldR_mono {k : Nat} {ls : List AV} {f g : AV → Prop} (h : ∀ v, f v → g v) (q : ldR k ls f) : ldR k ls g := by
  unfold ldR at q ⊢
  split at q
  · exact h _ q
  · exact q.elim
theorem wcall_mono {a b : Nat} {c : Int} {st : List AV} {M : Mem} {kn kn' : List AV → Mem → Prop} {kc kc' : Nat → List AV → Mem → (Option AV → Mem → Prop) → Prop} (hn : ∀ s m, kn s m → kn' s m) (hc : ∀ a as m Q Q', (∀ r m, Q r m → Q' r m) → kc a as m Q → kc' a as m Q') : wcall a b c st M kn kc → wcall a b c st M kn' kc' := by
  unfold wcall
  cases popn (b % 1000) st [] with
  | none => exact fun h => h.elim
  | some p =>
    obtain ⟨as, st'⟩ := p
    dsimp only
    cases cat8 st' && Nat.beq ((as.map catv).sum) (b / 1000) with
    | false => exact fun h => h.elim
    | true =>
      dsimp only
      have k : (match as with
        | .inr (.inr (.inl r)) :: _ => gK M r = c.toNat ∧ kc a as M (fun r M' => kn (r.toList ++ st') M')
        | _ => False) → (match as with
        | .inr (.inr (.inl r)) :: _ => gK M r = c.toNat ∧ kc' a as M (fun r M' => kn' (r.toList ++ st') M')
        | _ => False) := by
        rcases as with _ | ⟨v, as⟩
        · exact fun h => h
        · rcases v with v | v | v | v
          · exact fun h => h
          · exact fun h => h
          · exact fun h => ⟨h.1, hc _ _ _ _ _ (fun r m q => hn _ _ q) h.2⟩
          · exact fun h => h
      rcases c with (_ | n) | n
      · exact fun h => hc _ _ _ _ _ (fun r m q => hn _ _ q) h
      · exact k
      · exact k
theorem wspec_mono {c : Int} {st : List AV} {M : Mem} {kn kn' : List AV → Mem → Prop} (hn : ∀ s m, kn s m → kn' s m) (h : wspec c st M kn) : wspec c st M kn' := by
  unfold wspec at h ⊢
  split at h
  · split at h
    · split at h
      · exact ⟨h.1, hn _ _ h.2⟩
      · exact h.elim
    · exact h.elim
  · split at h
    · split at h
      · obtain ⟨h1, h2, h3, h4, h5, h6, h7⟩ := h
        refine ⟨h1, h2, h3, h4, h5, h6, ?_⟩
        rcases h7 with h7 | h7
        · exact Or.inl ⟨h7.1, h7.2.1, hn _ _ h7.2.2⟩
        · exact Or.inr ⟨h7.1, h7.2.1, hn _ _ h7.2.2⟩
      · exact h.elim
    · exact h.elim
set_option maxHeartbeats 8000000 in
theorem wpi_mono {G : Env0} {i : Instr} {pc a b : Nat} {c : Int} {ls st : List AV} {M : Mem} {kn kn' : List AV → List AV → Mem → Prop} {kj kj' : Nat → List AV → List AV → Mem → Prop} {kc kc' : Nat → List AV → Mem → (Option AV → Mem → Prop) → Prop} {q q' : Option AV → Mem → Prop}
    (hn : ∀ l s m, kn l s m → kn' l s m) (hj : ∀ t l s m, kj t l s m → kj' t l s m) (hc : ∀ a as m Q Q', (∀ r m, Q r m → Q' r m) → kc a as m Q → kc' a as m Q') (hq : ∀ r m, q r m → q' r m) (h : wpi G i pc a b c ls st M kn kj kc q) : wpi G i pc a b c ls st M kn' kj' kc' q' := by
  cases i <;> simp only [wpi] at h ⊢ <;> (repeat' (split at h)) <;>
    first
    | exact h.elim
    | exact hn _ _ _ h
    | exact hj _ _ _ _ h
    | exact hq _ _ h
    | exact ldI_mono (fun _ => hn _ _ _) h
    | exact ldL_mono (fun _ => hn _ _ _) h
    | exact ldR_mono (fun _ => hn _ _ _) h
    | exact ⟨h.1, hn _ _ _ h.2⟩
    | exact ⟨h.1, hq _ _ h.2⟩
    | exact ⟨h.1, h.2.1, hn _ _ _ h.2.2⟩
    | exact ⟨h.1, h.2.1, h.2.2.1, hn _ _ _ h.2.2.2⟩
    | exact ⟨h.1, h.2.1, h.2.2.1, h.2.2.2.1, hn _ _ _ h.2.2.2.2⟩
    | exact ⟨fun e => hj _ _ _ _ (h.1 e), fun e => hn _ _ _ (h.2 e)⟩
    | exact ⟨fun e => hj _ _ _ _ (h.1 e), swT_mono (fun _ => hj _ _ _ _) _ _ h.2⟩
    | exact swL_mono (fun _ => hj _ _ _ _) _ h
    | exact wcall_mono (fun _ _ => hn _ _ _) hc h
    | exact wspec_mono (fun _ _ => hn _ _ _) h
/-- one step of a method: by the rows from pc on -/
def hdp : List CE → Nat
  | [] => 100000
  | e :: _ => e.1
abbrev XT : Type := Nat → Nat → List AV → List AV → Mem → (Option AV → Mem → Prop) → Prop
def stepX (G : Env0) (X : XT) (j pc : Nat) (ls st : List AV) (M : Mem) (Q : Option AV → Mem → Prop) : Prop :=
  match sfx (tab j).2 pc with
  | [] => False
  | (p, i, _, a, b, c) :: L => wpi G i p a b c ls st M (fun l s m => X j (hdp L) l s m Q) (fun t l s m => X j t l s m Q) (fun j' as m Q' => X j' 0 (ini (tab j').1 as) [] m Q') Q
def At (G : Env0) : XT := fun j pc ls st M Q => ∀ X : XT, (∀ j pc ls st M Q, stepX G X j pc ls st M Q → X j pc ls st M Q) → X j pc ls st M Q
/-- a method, called with these arguments, returns, and Q holds of its answer and the memory -/
def Call (G : Env0) (j : Nat) (as : List AV) (M : Mem) (Q : Option AV → Mem → Prop) : Prop := At G j 0 (ini (tab j).1 as) [] M Q
/-- the transformer, closed under weaker ends -/
theorem At.ind {G : Env0} {X : XT} (hX : ∀ j pc ls st M Q, stepX G X j pc ls st M Q → X j pc ls st M Q) {j pc : Nat} {ls st : List AV} {M : Mem} {Q : Option AV → Mem → Prop} (h : At G j pc ls st M Q) : X j pc ls st M Q := h X hX
theorem stepX_mono {G : Env0} {X Y : XT} (h : ∀ j pc ls st M (Q Q' : Option AV → Mem → Prop), (∀ r m, Q r m → Q' r m) → X j pc ls st M Q → Y j pc ls st M Q') {j pc : Nat} {ls st : List AV} {M : Mem} {Q Q' : Option AV → Mem → Prop} (hQ : ∀ r m, Q r m → Q' r m) (q : stepX G X j pc ls st M Q) : stepX G Y j pc ls st M Q' := by
  unfold stepX at q ⊢
  split at q
  · exact q.elim
  · exact wpi_mono (fun _ _ _ => h _ _ _ _ _ _ _ hQ) (fun _ _ _ _ => h _ _ _ _ _ _ _ hQ) (fun _ _ _ _ _ hh => h _ _ _ _ _ _ _ hh) hQ q
theorem At.weak {G : Env0} {j pc : Nat} {ls st : List AV} {M : Mem} {Q Q' : Option AV → Mem → Prop} (hQ : ∀ r m, Q r m → Q' r m) (h : At G j pc ls st M Q) : At G j pc ls st M Q' := by
  have k := h (fun j pc ls st M Q => ∀ Q', (∀ r m, Q r m → Q' r m) → At G j pc ls st M Q') (fun j pc ls st M Q q Q' hQ X hX =>
    hX _ _ _ _ _ _ (stepX_mono (X := fun j pc ls st M Q => ∀ Q', (∀ r m, Q r m → Q' r m) → At G j pc ls st M Q') (Y := X) (fun _ _ _ _ _ _ Q2 h2 k => k Q2 h2 X hX) hQ q))
  exact k Q' hQ
theorem At.fold {G : Env0} {j pc : Nat} {ls st : List AV} {M : Mem} {Q : Option AV → Mem → Prop} (h : stepX G (At G) j pc ls st M Q) : At G j pc ls st M Q := fun X hX =>
  hX _ _ _ _ _ _ (stepX_mono (fun _ _ _ _ _ _ _ h2 k => (k.weak h2) X hX) (fun _ _ q => q) h)
theorem At.unfold {G : Env0} {j pc : Nat} {ls st : List AV} {M : Mem} {Q : Option AV → Mem → Prop} (h : At G j pc ls st M Q) : stepX G (At G) j pc ls st M Q :=
  h (fun j pc ls st M Q => stepX G (At G) j pc ls st M Q) (fun _ _ _ _ _ _ q => stepX_mono (X := fun j pc ls st M Q => stepX G (At G) j pc ls st M Q) (Y := At G) (fun _ _ _ _ _ _ _ h2 k => (At.fold k).weak h2) (fun _ _ q => q) q)
theorem At_iff {G : Env0} {j pc : Nat} {ls st : List AV} {M : Mem} {Q : Option AV → Mem → Prop} : At G j pc ls st M Q ↔ stepX G (At G) j pc ls st M Q := ⟨At.unfold, At.fold⟩
theorem Call.weak {G : Env0} {j : Nat} {as : List AV} {M : Mem} {Q Q' : Option AV → Mem → Prop} (h : Call G j as M Q) (hQ : ∀ r m, Q r m → Q' r m) : Call G j as M Q' := At.weak hQ h
/-- a straight stretch of n rows -/
def run (G : Env0) (j : Nat) (Q : Option AV → Mem → Prop) : Nat → List CE → List AV → List AV → Mem → Prop
  | 0, L, ls, st, M => At G j (hdp L) ls st M Q
  | _ + 1, [], ls, st, M => At G j 100000 ls st M Q
  | n + 1, (p, i, _, a, b, c) :: L, ls, st, M => wpi G i p a b c ls st M (fun l s m => run G j Q n L l s m) (fun t l s m => At G j t l s m Q) (fun j' as m Q' => Call G j' as m Q') Q
def incr : List CE → Bool
  | [] => true
  | [_] => true
  | e :: e' :: L => Nat.blt e.1 e'.1 && incr (e' :: L)
theorem incr_tail {e : CE} {L : List CE} (h : incr (e :: L) = true) : incr L = true := by
  cases L with
  | nil => rfl
  | cons e' L => simp only [incr, Bool.and_eq_true] at h; exact h.2
theorem incr_lt : ∀ (L : List CE) (e : CE), incr (e :: L) = true → ∀ x ∈ L, e.1 < x.1
  | [], _, _, _, h => absurd h List.not_mem_nil
  | e' :: L, e, h, x, hx => by
    have h2 := incr_tail h
    simp only [incr, Bool.and_eq_true] at h
    have h3 : e.1 < e'.1 := by simpa [Nat.blt_eq] using h.1
    rcases List.mem_cons.mp hx with rfl | hx
    · exact h3
    · exact Nat.lt_trans h3 (incr_lt L e' h2 x hx)
theorem sfx_ne {e : CE} {L : List CE} {pc : Nat} (h : e.1 ≠ pc) : sfx (e :: L) pc = sfx L pc := by
  have : Nat.beq e.1 pc = false := by
    cases hb : Nat.beq e.1 pc with
    | true => exact absurd (Nat.eq_of_beq_eq_true hb) h
    | false => rfl
  simp only [sfx, this]
theorem sfx_eq {e : CE} {L : List CE} : sfx (e :: L) e.1 = e :: L := by
  have : Nat.beq e.1 e.1 = true := Nat.beq_refl _
  simp only [sfx, this]
theorem sfx_mem : ∀ (L : List CE) (pc : Nat) (e : CE) (L' : List CE), sfx L pc = e :: L' → e ∈ L ∧ (∀ x ∈ L', x ∈ L) ∧ e.1 = pc
  | [], _, _, _, h => by cases h
  | f :: L, pc, e, L', h => by
    by_cases hf : f.1 = pc
    · subst hf
      rw [sfx_eq] at h
      cases h
      exact ⟨List.mem_cons_self, fun x hx => List.mem_cons_of_mem _ hx, rfl⟩
    · rw [sfx_ne hf] at h
      obtain ⟨h1, h2, h3⟩ := sfx_mem L pc e L' h
      exact ⟨List.mem_cons_of_mem _ h1, fun x hx => List.mem_cons_of_mem _ (h2 x hx), h3⟩
theorem sfx_tail : ∀ (L : List CE), incr L = true → ∀ (pc : Nat) (e e' : CE) (L' : List CE), sfx L pc = e :: e' :: L' → sfx L e'.1 = e' :: L'
  | [], _, _, _, _, _, h => by cases h
  | f :: L, hi, pc, e, e', L', h => by
    by_cases hf : f.1 = pc
    · subst hf
      rw [sfx_eq] at h
      cases h
      have h1 := incr_lt _ _ hi e' List.mem_cons_self
      rw [sfx_ne (Nat.ne_of_lt h1), sfx_eq]
    · rw [sfx_ne hf] at h
      have h1 := incr_lt _ _ hi e' ((sfx_mem _ _ _ _ h).2.1 _ List.mem_cons_self)
      rw [sfx_ne (Nat.ne_of_lt h1)]
      exact sfx_tail L (incr_tail hi) pc e e' L' h
theorem run_iff {G : Env0} {j : Nat} (hi : incr (tab j).2 = true) {Q : Option AV → Mem → Prop} : ∀ (n : Nat) (pc : Nat) (L : List CE), sfx (tab j).2 pc = L → L ≠ [] → ∀ (ls st : List AV) (M : Mem), At G j pc ls st M Q ↔ run G j Q n L ls st M
  | 0, pc, [], _, h0, _, _, _ => absurd rfl h0
  | 0, pc, e :: L, h, _, ls, st, M => by
    have h1 : e.1 = pc := (sfx_mem _ _ _ _ h).2.2
    show _ ↔ At G j e.1 ls st M Q
    rw [h1]
  | n + 1, pc, [], _, h0, _, _, _ => absurd rfl h0
  | n + 1, pc, (p, i, len, a, b, c) :: L, h, _, ls, st, M => by
    rw [At_iff]
    unfold stepX
    rw [h]
    cases L with
    | nil =>
      have e0 : ∀ l s m, At G j (hdp []) l s m Q ↔ run G j Q n [] l s m := by
        intro l s m
        cases n with
        | zero => exact Iff.rfl
        | succ n => exact Iff.rfl
      exact ⟨wpi_mono (fun l s m => (e0 l s m).mp) (fun _ _ _ _ q => q) (fun _ _ _ _ _ hh q => At.weak hh q) (fun _ _ q => q), wpi_mono (fun l s m => (e0 l s m).mpr) (fun _ _ _ _ q => q) (fun _ _ _ _ _ hh q => At.weak hh q) (fun _ _ q => q)⟩
    | cons e' L' =>
      have h2 := sfx_tail _ hi _ _ _ _ h
      have e0 : ∀ l s m, At G j (hdp (e' :: L')) l s m Q ↔ run G j Q n (e' :: L') l s m := fun l s m => run_iff hi n e'.1 (e' :: L') h2 (by simp) l s m
      exact ⟨wpi_mono (fun l s m => (e0 l s m).mp) (fun _ _ _ _ q => q) (fun _ _ _ _ _ hh q => At.weak hh q) (fun _ _ q => q), wpi_mono (fun l s m => (e0 l s m).mpr) (fun _ _ _ _ q => q) (fun _ _ _ _ _ hh q => At.weak hh q) (fun _ _ q => q)⟩
