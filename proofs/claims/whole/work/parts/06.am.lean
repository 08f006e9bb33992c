/-! A small machine: memory is a list of cells (0: the script, 1: the list's empty array, from 2 on what is made), locals a list of (number, value). -/
abbrev AC : Type := (FieldType × List Value) ⊕ (Nat × List Value)
abbrev AM : Type := List AC
abbrev AL : Type := List (Nat × Value)
def lget (L : AL) (i : Nat) : Option Value := (L.find? (fun q => q.1 == i)).map (fun q => q.2)
def lput1 (L : AL) (i : Nat) (v : Value) : AL := (i, v) :: L.filter (fun q => !(q.1 == i) && !(q.1 + 1 == i && q.2.category == 2))
def lput2 (L : AL) (i : Nat) (v : Value) : AL := (i, v) :: L.filter (fun q => !(q.1 == i) && (!(q.1 == i + 1) && !(q.1 + 1 == i && q.2.category == 2)))
def br (pc : Nat) (off : Int) : Option Nat := if 0 ≤ (pc : Int) + off then some ((pc : Int) + off).toNat else none
def okT (ty : FieldType) (v : Value) : Bool := match ty, v with
  | .int, .int _ => true
  | .long, .long _ => true
  | .boolean, .int x => x == 0 || x == 1
  | .object _, .ref _ => true
  | .object _, .null => true
  | .array _, .ref _ => true
  | .array _, .null => true
  | _, _ => false
/-- which home a kind of thing has -/
def clH : List Nat := [1, 17, 13, 3, 12, 10, 9, 5, 24, 11, 26, 6, 19, 22, 23]
def rF (h i : Nat) : Option (Nat × Nat × Nat) := (rFs.find? (fun e => e.1.1 == h && e.1.2 == i)).map (fun e => e.2)
def rM (h i : Nat) : Option (Nat × Nat × MI) := (rMs.find? (fun e => e.1.1 == h && e.1.2 == i)).map (fun e => e.2)
def rC (h i : Nat) : Option Nat := (rCs.find? (fun e => e.1.1 == h && e.1.2 == i)).map (fun e => e.2)
def rK (h i : Nat) : Option Int32 := (rKs.find? (fun e => e.1.1 == h && e.1.2 == i)).map (fun e => e.2)
def rJ (h i : Nat) : Option Int64 := (rJs.find? (fun e => e.1.1 == h && e.1.2 == i)).map (fun e => e.2)
/-- makers that the machine takes at one stroke: 0 Object's -/
def rA (h i : Nat) : Option String := (rAs.find? (fun e => e.1.1 == h && e.1.2 == i)).map (fun e => e.2)
def rY (h i : Nat) : Option Nat := (rYs.find? (fun e => e.1.1 == h && e.1.2 == i)).map (fun e => e.2)
def rE (h i : Nat) : Option Nat := (rEs.find? (fun e => e.1.1 == h && e.1.2 == i)).map (fun e => e.2)
def rX (h i : Nat) : Option Nat := (rXs.find? (fun e => e.1.1 == h && e.1.2 == i)).map (fun e => e.2)
/-- what an instruction does: go on; or end with an answer; or call (method, arguments, rest of the stack); or throw what was made -/
abbrev SR : Type := (Nat × AL × List Value × AM) ⊕ (Option Value ⊕ ((MI × List Value × List Value) ⊕ Nat))
def go (pc : Nat) (L : AL) (st : List Value) (mem : AM) : Option SR := some (.inl (pc, L, st, mem))
def i2 (f : Int32 → Int32 → Int32) (pc : Nat) (L : AL) (st : List Value) (mem : AM) : Option SR := match st with
  | .int y :: .int x :: r => go (pc + 1) L (.int (f x y) :: r) mem
  | _ => none
def l2 (f : Int64 → Int64 → Int64) (pc : Nat) (L : AL) (st : List Value) (mem : AM) : Option SR := match st with
  | .long y :: .long x :: r => go (pc + 1) L (.long (f x y) :: r) mem
  | _ => none
def ldI (i len pc : Nat) (L : AL) (st : List Value) (mem : AM) : Option SR := match lget L i with
  | some (.int x) => go (pc + len) L (.int x :: st) mem
  | _ => none
def ldL (i len pc : Nat) (L : AL) (st : List Value) (mem : AM) : Option SR := match lget L i with
  | some (.long x) => go (pc + len) L (.long x :: st) mem
  | _ => none
def ldA (i len pc : Nat) (L : AL) (st : List Value) (mem : AM) : Option SR := match lget L i with
  | some (.ref x) => go (pc + len) L (.ref x :: st) mem
  | _ => none
def stI (nL i len pc : Nat) (L : AL) (st : List Value) (mem : AM) : Option SR := match st with
  | .int x :: r => if i < nL then go (pc + len) (lput1 L i (.int x)) r mem else none
  | _ => none
def stA (nL i len pc : Nat) (L : AL) (st : List Value) (mem : AM) : Option SR := match st with
  | .ref x :: r => if i < nL then go (pc + len) (lput1 L i (.ref x)) r mem else none
  | _ => none
def stL (nL i len pc : Nat) (L : AL) (st : List Value) (mem : AM) : Option SR := match st with
  | .long x :: r => if i + 1 < nL then go (pc + len) (lput2 L i (.long x)) r mem else none
  | _ => none
/-- an array's element is read -/
def aLd (ty : FieldType) (pc : Nat) (L : AL) (st : List Value) (mem : AM) : Option SR := match st with
  | .int j :: .ref a :: r => match mem[a]? with
    | some (.inl (t, vs)) => if t = ty then (if j < 0 then none else match vs[j.toNatClampNeg]? with
      | some v => go (pc + 1) L (v :: r) mem
      | none => none) else none
    | _ => none
  | _ => none
/-- an array's element is written: what lies on top, narrowed -/
def aSt (ty : FieldType) (pc : Nat) (L : AL) (st : List Value) (mem : AM) : Option SR := match st with
  | v :: .int j :: .ref a :: r => match mem[a]? with
    | some (.inl (t, vs)) => if t = ty ∧ 2 ≤ a then (if j < 0 then none else if j.toNatClampNeg < vs.length then
        go (pc + 1) L r (mem.set a (.inl (t, vs.set j.toNatClampNeg (narrow ty v)))) else none) else none
    | _ => none
  | _ => none
def jmp (b : Bool) (off : Int) (pc : Nat) (L : AL) (st : List Value) (mem : AM) : Option SR := match br pc off with
  | some t => if b = true then go t L st mem else go (pc + 3) L st mem
  | none => none
def ats (t : ArrayType) : Option FieldType := match t with
  | .int => some .int
  | .long => some .long
  | .boolean => some .boolean
  | _ => none
def acm (c : ClassFile.ACond) (x y : Nat) : Bool := match c with
  | .eq => decide (x = y)
  | .ne => decide (¬ x = y)
def isL (v : Value) : Bool := match v with
  | .long _ => true
  | _ => false
def one (M : MI) (i : Instr) (pc : Nat) (L : AL) (st : List Value) (mem : AM) : Option SR := match i with
  | .aconst_null => go (pc + 1) L (.null :: st) mem
  | .iconst n => go (pc + 1) L (.int (Int32.ofInt n) :: st) mem
  | .bipush n => go (pc + 2) L (.int (Int8.ofInt n).toInt32 :: st) mem
  | .sipush n => go (pc + 3) L (.int (Int16.ofInt n).toInt32 :: st) mem
  | .lconst n => go (pc + 1) L (.long (Int64.ofNat (n : Nat)) :: st) mem
  | .ldc k => match rK (mH M) k with
    | some v => go (pc + 2) L (.int v :: st) mem
    | none => none
  | .ldc_w k => match rK (mH M) k with
    | some v => go (pc + 3) L (.int v :: st) mem
    | none => none
  | .ldc2_w k => match rJ (mH M) k with
    | some v => go (pc + 3) L (.long v :: st) mem
    | none => none
  | .iload k => ldI k 2 pc L st mem
  | .iload_n k => ldI k 1 pc L st mem
  | .lload k => ldL k 2 pc L st mem
  | .lload_n k => ldL k 1 pc L st mem
  | .aload k => ldA k 2 pc L st mem
  | .aload_n k => ldA k 1 pc L st mem
  | .istore k => stI (mL M) k 2 pc L st mem
  | .istore_n k => stI (mL M) k 1 pc L st mem
  | .lstore k => stL (mL M) k 2 pc L st mem
  | .lstore_n k => stL (mL M) k 1 pc L st mem
  | .astore k => stA (mL M) k 2 pc L st mem
  | .astore_n k => stA (mL M) k 1 pc L st mem
  | .iinc k n => match lget L k with
    | some (.int x) => if k < mL M then go (pc + 3) (lput1 L k (.int (x + Int32.ofInt n))) st mem else none
    | _ => none
  | .iadd => i2 (fun x y => x + y) pc L st mem
  | .isub => i2 (fun x y => x - y) pc L st mem
  | .imul => i2 (fun x y => x * y) pc L st mem
  | .iand => i2 (fun x y => x &&& y) pc L st mem
  | .ior => i2 (fun x y => x ||| y) pc L st mem
  | .ixor => i2 (fun x y => x ^^^ y) pc L st mem
  | .ishl => i2 (fun x y => x <<< (y &&& 31)) pc L st mem
  | .ishr => i2 (fun x y => x >>> (y &&& 31)) pc L st mem
  | .idiv => match st with
    | .int y :: .int x :: r => if y = 0 then none else go (pc + 1) L (.int (x / y) :: r) mem
    | _ => none
  | .irem => match st with
    | .int y :: .int x :: r => if y = 0 then none else go (pc + 1) L (.int (x - x / y * y) :: r) mem
    | _ => none
  | .ineg => match st with
    | .int x :: r => go (pc + 1) L (.int (-x) :: r) mem
    | _ => none
  | .ladd => l2 (fun x y => x + y) pc L st mem
  | .lsub => l2 (fun x y => x - y) pc L st mem
  | .lmul => l2 (fun x y => x * y) pc L st mem
  | .lxor => l2 (fun x y => x ^^^ y) pc L st mem
  | .ldiv => match st with
    | .long y :: .long x :: r => if y = 0 then none else go (pc + 1) L (.long (x / y) :: r) mem
    | _ => none
  | .lrem => match st with
    | .long y :: .long x :: r => if y = 0 then none else go (pc + 1) L (.long (x - x / y * y) :: r) mem
    | _ => none
  | .lneg => match st with
    | .long x :: r => go (pc + 1) L (.long (-x) :: r) mem
    | _ => none
  | .lcmp => match st with
    | .long y :: .long x :: r => go (pc + 1) L (.int (lg_cmp x y) :: r) mem
    | _ => none
  | .i2l => match st with
    | .int x :: r => go (pc + 1) L (.long x.toInt64 :: r) mem
    | _ => none
  | .dup => match st with
    | v :: r => if v.category = 1 then go (pc + 1) L (v :: v :: r) mem else none
    | _ => none
  | .pop => match st with
    | v :: r => if v.category = 1 then go (pc + 1) L r mem else none
    | _ => none
  | .dup_x1 => match st with
    | v :: w :: r => if v.category = 1 ∧ w.category = 1 then go (pc + 1) L (v :: w :: v :: r) mem else none
    | _ => none
  | .dup2 => match st with
    | v :: w :: r => if v.category = 1 ∧ w.category = 1 then go (pc + 1) L (v :: w :: v :: w :: r) mem else none
    | _ => none
  | .ifCond c off => match st with
    | .int x :: r => jmp (Op.ifCond.holds c x) off pc L r mem
    | _ => none
  | .if_icmp c off => match st with
    | .int y :: .int x :: r => jmp (Op.if_icmp.holds c x y) off pc L r mem
    | _ => none
  | .goto off => jmp true off pc L st mem
  | .tableswitch d lo hi offs => match st with
    | .int x :: r => if x.toInt < lo ∨ hi < x.toInt then jmp true d pc L r mem else (match offs[(x.toInt - lo).toNat]? with
      | some o => jmp true o pc L r mem
      | none => none)
    | _ => none
  | .getfield k => match st with
    | .ref a :: r => match rF (mH M) k with
      | some (ci, j, _) => match mem[a]? with
        | some (.inr (c2, fs)) => if c2 = ci then (match fs[j]? with
          | some v => go (pc + 3) L (v :: r) mem
          | none => none) else none
        | _ => none
      | none => none
    | _ => none
  | .putfield k => match st with
    | v :: .ref a :: r => match rF (mH M) k with
      | some (ci, j, lk) => match mem[a]? with
        | some (.inr (c2, fs)) => if c2 = ci ∧ 2 ≤ a ∧ j < fs.length ∧ (lk = 0 ∨ lk = 2 ∨ (lk = 1 ∧ mI M = true)) ∧ (tys[ci]?.map (fun t => okT (t j) v)) = some true then go (pc + 3) L r (mem.set a (.inr (c2, fs.set j v))) else none
        | _ => none
      | none => none
    | _ => none
  | .iaload => aLd .int pc L st mem
  | .laload => aLd .long pc L st mem
  | .baload => aLd .boolean pc L st mem
  | .iastore => match st with
    | .int _ :: _ => aSt .int pc L st mem
    | _ => none
  | .lastore => match st with
    | .long _ :: _ => aSt .long pc L st mem
    | _ => none
  | .bastore => match st with
    | .int _ :: _ => aSt .boolean pc L st mem
    | _ => none
  | .aaload => match st with
    | .int j :: .ref a :: r => match mem[a]? with
      | some (.inl (.object _, vs)) => if j < 0 then none else (match vs[j.toNatClampNeg]? with
        | some v => go (pc + 1) L (v :: r) mem
        | none => none)
      | _ => none
    | _ => none
  | .arraylength => match st with
    | .ref a :: r => match mem[a]? with
      | some (.inl (_, vs)) => go (pc + 1) L (.int vs.length.toInt32 :: r) mem
      | _ => none
    | _ => none
  | .newarray t => match st, ats t with
    | .int n :: r, some ty => if n < 0 ∨ 100 < n.toNatClampNeg then none else go (pc + 2) L (.ref mem.length :: r) (mem ++ [.inl (ty, List.replicate n.toNatClampNeg (defaultValue ty))])
    | _, _ => none
  | .new k => match rC (mH M) k with
    | some ci => match CLs[ci]?, tys[ci]? with
      | some r, some t => if 12 ≤ ci then some (.inr (.inr (.inr ci))) else go (pc + 3) L (.ref mem.length :: st) (mem ++ [.inr (ci, (List.range r.2.2).map (fun j => defaultValue (t j)))])
      | _, _ => none
    | none => none
  | .ireturn => match st, mR M with
    | [.int x], some .int => some (.inr (.inl (some (.int x))))
    | [.int x], some .boolean => if x = 0 ∨ x = 1 then some (.inr (.inl (some (.int x)))) else none
    | _, _ => none
  | .lreturn => match st, mR M with
    | [.long x], some .long => some (.inr (.inl (some (.long x))))
    | _, _ => none
  | .areturn => match st, mR M with
    | [.ref x], some (.object _) => some (.inr (.inl (some (.ref x))))
    | [.ref x], some (.array _) => some (.inr (.inl (some (.ref x))))
    | _, _ => none
  | .return_ => match st, mR M with
    | [], none => some (.inr (.inl none))
    | _, _ => none
  | .getstatic k => if mH M = 6 ∧ k = 39 then go (pc + 3) L (.ref 1 :: st) mem else none
  | .if_acmp c off => match st with
    | .ref y :: .ref x :: r => jmp (acm c x y) off pc L r mem
    | _ => none
  | .checkcast k => match st with
    | .ref a :: _ => match rC (mH M) k, mem[a]? with
      | some ci, some (.inr (c2, _)) => if ci = 1 ∧ c2 = 1 then go (pc + 3) L st mem else none
      | _, _ => none
    | _ => none
  | .anewarray k => match st with
    | .int n :: r => match rA (mH M) k with
      | some C => if n < 0 ∨ 100 < n.toNatClampNeg then none else go (pc + 3) L (.ref mem.length :: r) (mem ++ [.inl (.object C, List.replicate n.toNatClampNeg .null)])
      | none => none
    | _ => none
  | .aastore => match st with
    | .ref v :: .int j :: .ref a :: r => match mem[a]?, mem[v]? with
      | some (.inl (.object C, vs)), some (.inr (ci, _)) => if 2 ≤ a ∧ ((CLs[ci]?.map (fun x => x.1)) = some C ∨ (C = "java/lang/Object" ∧ ci = 1)) ∧ ¬ j < 0 ∧ j.toNatClampNeg < vs.length then go (pc + 1) L r (mem.set a (.inl (.object C, vs.set j.toNatClampNeg (.ref v)))) else none
      | _, _ => none
    | _ => none
  | .invokestatic k => match rY (mH M) k with
    | some _ => match st with
      | .int n :: .int dp :: .ref b :: .int sp :: .ref a :: r => match mem[a]?, mem[b]? with
        | some (.inl (.long, vs)), some (.inl (.long, us)) => if 2 ≤ b ∧ sp = 0 ∧ dp = 0 ∧ ¬ n < 0 ∧ n.toNatClampNeg = vs.length ∧ us.length = vs.length ∧ vs.all isL = true ∧ (r.map (fun v => v.category)).sum ≤ 8 then go (pc + 3) L r (mem.set b (.inl (.long, vs))) else none
        | _, _ => none
      | _ => none
    | none => match rM (mH M) k with
      | some (kd, n, M') => if (kd = 0 ∨ kd = 1) ∧ n ≤ st.length then some (.inr (.inr (.inl (M', (st.take n).reverse, st.drop n)))) else none
      | none => none
  | .invokespecial k => match rX (mH M) k with
    | some 0 => match st with
      | .ref _ :: r => if (r.map (fun v => v.category)).sum ≤ 8 then go (pc + 3) L r mem else none
      | _ => none
    | some _ => none
    | none => match rM (mH M) k with
      | some (kd, n, M') => if (kd = 2 ∨ kd = 3) ∧ n ≤ st.length then (match st.drop n with
        | .ref a :: r => some (.inr (.inr (.inl (M', .ref a :: (st.take n).reverse, r))))
        | _ => none) else none
      | none => none
  | .invokevirtual k => match rM (mH M) k with
    | some (kd, n, M') => if (kd = 4 ∨ kd = 5) ∧ n ≤ st.length then (match st.drop n with
      | .ref a :: r => match mem[a]? with
        | some (.inr (ci, _)) => if clH[ci]? = some (mH M') then some (.inr (.inr (.inl (M', .ref a :: (st.take n).reverse, r)))) else none
        | _ => none
      | _ => none) else none
    | none => if mH M = 4 ∧ k = 86 then some (.inr (.inr (.inr 99))) else none
  | _ => none
def ilen (i : Instr) : Nat := match i with
  | .bipush _ => 2
  | .ldc _ => 2
  | .iload _ => 2
  | .lload _ => 2
  | .aload _ => 2
  | .istore _ => 2
  | .lstore _ => 2
  | .astore _ => 2
  | .newarray _ => 2
  | .sipush _ => 3
  | .ldc_w _ => 3
  | .ldc2_w _ => 3
  | .iinc _ _ => 3
  | .ifCond _ _ => 3
  | .if_icmp _ _ => 3
  | .if_acmp _ _ => 3
  | .goto _ => 3
  | .getfield _ => 3
  | .putfield _ => 3
  | .getstatic _ => 3
  | .new _ => 3
  | .anewarray _ => 3
  | .checkcast _ => 3
  | .invokestatic _ => 3
  | .invokespecial _ => 3
  | .invokevirtual _ => 3
  | _ => 1
/-- does an instruction write into what was there? -/
def wrs (i : Instr) : Bool := match i with
  | .putfield _ => true
  | .iastore => true
  | .lastore => true
  | .bastore => true
  | .aastore => true
  | .invokestatic _ => true
  | _ => false
def fetch (M : MI) (pc : Nat) : Option Instr := match decode (mB M) pc with
  | .ok (i, n) => match i with
    | .tableswitch _ _ _ _ => some i
    | _ => if n = ilen i then some i else none
  | .error _ => none
/-- what a list's array may hold -/
def okE1 (mem : AM) (v : Value) : Bool := match v with
  | .null => true
  | .ref x => (match mem[x]? with
    | some (.inr (ci, _)) => ci == 1
    | _ => false)
  | _ => false
/-- an array of references is copied into a longer one: the array's kind is asked for, then Arrays.copyOf with it -/
def cop (M : MI) (pc : Nat) (st : List Value) (mem : AM) : Option AM := match fetch M (pc + 3) with
  | some (.invokestatic j) => (match st with
    | [.ref b, .int n, .ref a] => (match mem[a]? with
      | some (.inl (.object C, vs)) => if j = 300 ∧ C = "java/lang/Object" ∧ b = a ∧ ¬ n < 0 ∧ vs.length ≤ n.toNatClampNeg ∧ n.toNatClampNeg ≤ 100 ∧ vs.all (okE1 mem) = true then some (mem ++ [.inl (.object C, vs ++ List.replicate (n.toNatClampNeg - vs.length) .null)]) else none
      | _ => none)
    | _ => none)
  | _ => none
/-- where an exception of a kind is caught -/
def hnd (h pc ci : Nat) : List (Nat × Nat × Nat × Nat) → Option Nat
  | [] => none
  | (a, b, g, t) :: r => if a ≤ pc ∧ pc < b then (match rC h t with
    | none => none
    | some c2 => if c2 = ci then (if t = 0 then none else some g) else if t ≠ 0 ∧ 12 ≤ ci ∧ 12 ≤ c2 then hnd h pc ci r else none) else hnd h pc ci r
abbrev RS : Type := (Option Value ⊕ Nat) × AM × Bool
def run : Nat → Nat → MI → Nat → Bool → Nat → AL → List Value → AM → Option RS
  | 0, _, _, _, _, _, _, _, _ => none
  | f + 1, d, M, n0, w, pc, L, st, mem => match fetch M pc with
    | none => none
    | some i => match one M i pc L st mem with
      | none => none
      | some (.inl (pc', L', st', mem')) => run f d M n0 (w || wrs i) pc' L' st' mem'
      | some (.inr (.inl v)) => some (.inl v, mem, w)
      | some (.inr (.inr (.inl (M', as, rest)))) => match d with
        | 0 => none
        | d' + 1 => if (rest.map (fun v => v.category)).sum ≤ 8 ∧ (lg_sl as).length ≤ mL M' then (match run f d' M' mem.length false 0 (lv_args 0 as) [] mem with
          | none => none
          | some (.inl v, mem', w') => run f (d' + 1) M n0 (w || w') (pc + 3) L (v.toList ++ rest) mem'
          | some (.inr k, mem', w') => match mem'[k]? with
            | some (.inr (ci, _)) => if mX M = [] then some (.inr k, mem', w || w') else (match hnd (mH M) pc ci (mX M) with
              | none => none
              | some h => run f (d' + 1) M n0 (w || w') h L [.ref k] mem')
            | _ => none) else none
      | some (.inr (.inr (.inr ci))) => if ci = 99 then (match cop M pc st mem with
        | some mem' => run f d M n0 true (pc + 6) L [.ref mem.length] mem'
        | none => none) else (match fetch M (pc + 3), fetch M (pc + 4), fetch M (pc + 7) with
        | some .dup, some (.invokespecial j), some .athrow => if w = false ∧ n0 = mem.length ∧ mX M = [] ∧ rE (mH M) j = some ci ∧ (st.map (fun v => v.category)).sum ≤ 8 then some (.inr mem.length, mem ++ [.inr (ci, [])], w) else none
        | _, _, _ => none)
