noncomputable section
/-! the bounded machine: cells, calls, loops, runs -/
abbrev jG1 : Type := Nat × (List (Value ⊕ (Int × Int)) ⊕ (Nat × Int × Int))
abbrev jGt : Type := List (List jG1)
def jgc (G : jGt) (r : Nat) : Option jG1 := match G[r / 16]? with
  | some l => l[r % 16]?
  | none => none
def jmg (m : jM) (r k : Nat) : Option jV := List.rec (motive := fun _ => Option jV) none (fun q _ ih => bif Nat.beq q.1.1 r && Nat.beq q.1.2 k then some q.2 else ih) m
theorem jmg_cons {q : (Nat × Nat) × jV} {t : jM} {r k : Nat} : jmg (q :: t) r k = bif Nat.beq q.1.1 r && Nat.beq q.1.2 k then some q.2 else jmg t r k := rfl
def jw (W : List (Nat × Nat)) (r k : Nat) : Bool := W.any fun w => Nat.beq w.1 r && (Nat.beq w.2 9999 || Nat.beq w.2 k)
def jwr (W : List (Nat × Nat)) (r : Nat) : Bool := W.any fun w => Nat.beq w.1 r
def jwa (W : List (Nat × Nat)) (r : Nat) : Bool := W.any fun w => Nat.beq w.1 r && Nat.beq w.2 9999
def jin (g : jS) (a : jV) (k : Nat) (lo hi : Int) : Bool := match jbd g a with
  | some p => Nat.beq p.1 k && decide (lo ≤ p.2.1) && decide (p.2.2 ≤ hi)
  | none => false
/-- a field -/
def jfl (G : jGt) (g : jS) (r k : Nat) : Option (jV × jS) := match jgc G r with
  | some (_, .inl fs) => match fs[k]? with
    | some (.inl v) => some (.inl v, g)
    | some (.inr b) => match jmg g.2.2.1 r k with
      | some a => some (jnm g a, g)
      | none => some (.inr g.1, (g.1 + 1, (g.1, (0, b.1, b.2, none)) :: g.2.1, ((r, k), .inr g.1) :: g.2.2.1, g.2.2.2))
    | none => none
  | _ => none
def jpt (G : jGt) (W : List (Nat × Nat)) (g : jS) (r k : Nat) (a : jV) : Option jS := match jgc G r with
  | some (_, .inl fs) => match fs[k]? with
    | some (.inr b) => bif jin g a 0 b.1 b.2 && jw W r k then some (g.1, g.2.1, ((r, k), jnm g a) :: g.2.2.1.filter (fun q => !(Nat.beq q.1.1 r && Nat.beq q.1.2 k)), g.2.2.2.filter (fun q => !Nat.beq q.1.1 r)) else none
    | _ => none
  | _ => none
/-- an element -/
def jal (G : jGt) (g : jS) (t r : Nat) (j : jV) : Option (jV × jS) := match jgc G r with
  | some (t', .inr b) => bif Nat.beq t t' && jin g j 0 0 ((b.1 : Int) - 1) then
      match jnm g j with
      | .inl (.int x) => match jmg g.2.2.1 r x.toNatClampNeg with
        | some a => some (jnm g a, g)
        | none => some (.inr g.1, (g.1 + 1, (g.1, (bif Nat.beq t 102 then 1 else 0, b.2.1, b.2.2, none)) :: g.2.1, ((r, x.toNatClampNeg), .inr g.1) :: g.2.2.1, g.2.2.2))
      | .inr s => match jmg g.2.2.2 r s with
        | some a => some (jnm g a, g)
        | none => some (.inr g.1, (g.1 + 1, (g.1, (bif Nat.beq t 102 then 1 else 0, b.2.1, b.2.2, none)) :: g.2.1, g.2.2.1, ((r, s), .inr g.1) :: g.2.2.2))
      | _ => none
    else none
  | _ => none
def jas (G : jGt) (W : List (Nat × Nat)) (g : jS) (t r : Nat) (j a : jV) : Option jS := match jgc G r with
  | some (t', .inr b) => bif Nat.beq t t' && jin g j 0 0 ((b.1 : Int) - 1) && jin g a (bif Nat.beq t 102 then 1 else 0) b.2.1 b.2.2 && jwa W r then
      match jnm g j with
      | .inl (.int x) => some (g.1, g.2.1, ((r, x.toNatClampNeg), jnm g a) :: g.2.2.1.filter (fun q => !(Nat.beq q.1.1 r && Nat.beq q.1.2 x.toNatClampNeg)), g.2.2.2.filter (fun q => !Nat.beq q.1.1 r))
      | .inr s => some (g.1, g.2.1, g.2.2.1.filter (fun q => !Nat.beq q.1.1 r), ((r, s), jnm g a) :: g.2.2.2.filter (fun q => !Nat.beq q.1.1 r))
      | _ => none
    else none
  | _ => none
/-- the two static rows -/
def jst (g : jS) (q : Nat) (j : jV) : Option (jV × jS) := match (bif Nat.beq q 1 then some xsv1 else bif Nat.beq q 2 then some xsv2 else none) with
  | some vs => bif jin g j 0 0 ((vs.length : Int) - 1) then
      match jnm g j with
      | .inl (.int x) => (vs[x.toNatClampNeg]?).map fun v => (.inl (.int v), g)
      | _ => some (jfr g (0, 0, 81, none))
    else none
  | none => none
def jho (G : jGt) (W : List (Nat × Nat)) (own : Nat) (i : Instr) (st : List jV) (g : jS) : Option (List jV × jS) := match i, st with
  | .getfield idx, .inl (.ref r) :: st => match xtb xF own idx, jgc G r with
    | some (ci, k, _), some (t, _) => bif Nat.beq t ci then (jfl G g r k).map fun z => (z.1 :: st, z.2) else none
    | _, _ => none
  | .putfield idx, a :: .inl (.ref r) :: st => match xtb xF own idx, jgc G r with
    | some (ci, k, _), some (t, _) => bif Nat.beq t ci then
        match xT[ci]? with
        | some cs => match cs[k]? with
          | some c => bif Nat.blt c 2 && (Nat.beq c 0 || jin g a 0 0 1) then (jpt G W g r k a).map fun g => (st, g) else none
          | none => none
        | none => none
      else none
    | _, _ => none
  | .iaload, j :: .inl (.ref r) :: st => (jal G g 100 r j).map fun z => (z.1 :: st, z.2)
  | .baload, j :: .inl (.ref r) :: st => (jal G g 101 r j).map fun z => (z.1 :: st, z.2)
  | .laload, j :: .inl (.ref r) :: st => (jal G g 102 r j).map fun z => (z.1 :: st, z.2)
  | .iaload, j :: .inl (.retAddr q) :: st => (jst g q j).map fun z => (z.1 :: st, z.2)
  | .iastore, a :: j :: .inl (.ref r) :: st => (jas G W g 100 r j a).map fun g => (st, g)
  | .bastore, a :: j :: .inl (.ref r) :: st => bif jin g a 0 0 1 then (jas G W g 101 r j a).map fun g => (st, g) else none
  | .lastore, a :: j :: .inl (.ref r) :: st => (jas G W g 102 r j a).map fun g => (st, g)
  | .arraylength, .inl (.ref r) :: st => match jgc G r with
    | some (100, .inr b) => some (.inl (.int (Int32.ofNat b.1)) :: st, g)
    | _ => none
  | .getstatic idx, st => (xtb xG own idx).map fun k => (.inl (.retAddr k.1) :: st, g)
  | _, _ => none
/-- locals and stack -/
def jld (g : jS) (ls : jL) (k kd : Nat) : Option jV := match xfd ls k with
  | some a => bif jin g a kd (-9223372036854775808) 9223372036854775807 then some (jnm g a) else none
  | none => none
def jlr (ls : jL) (k : Nat) : Option jV := match xfd ls k with
  | some (.inl (.ref r)) => some (.inl (.ref r))
  | _ => none
def js1 (g : jS) (ls : jL) (i : Nat) (a : jV) : jL := (i, a) :: ls.filter (fun q => !(Nat.beq q.1 i) && !(Nat.beq (q.1 + 1) i && Nat.beq (jcat g q.2) 2))
def js2 (g : jS) (ls : jL) (i : Nat) (a : jV) : jL := (i, a) :: ls.filter (fun q => !(Nat.beq q.1 i) && (!(Nat.beq q.1 (i + 1)) && !(Nat.beq (q.1 + 1) i && Nat.beq (jcat g q.2) 2)))
def jbo (i : Instr) : Option Nat := match i with
  | .iadd => some 1
  | .isub => some 2
  | .imul => some 3
  | .idiv => some 4
  | .irem => some 5
  | .iand => some 6
  | .ior => some 7
  | .ixor => some 8
  | .ishl => some 9
  | .ishr => some 10
  | .iushr => some 11
  | .lcmp => some 17
  | _ => none
def juo (i : Instr) : Option Nat := match i with
  | .ineg => some 12
  | .i2l => some 13
  | .l2i => some 14
  | .i2b => some 15
  | .i2s => some 16
  | _ => none
def jx1 (own nL : Nat) (i : Instr) (ls : jL) (st : List jV) (g : jS) : Option (jL × List jV × jS) := match i, st with
  | .iconst n, st => some (ls, .inl (.int (Int32.ofInt n)) :: st, g)
  | .bipush n, st => some (ls, .inl (.int (Int8.ofInt n).toInt32) :: st, g)
  | .sipush n, st => some (ls, .inl (.int (Int16.ofInt n).toInt32) :: st, g)
  | .lconst n, st => some (ls, .inl (.long (Int64.ofNat (n : Nat))) :: st, g)
  | .ldc k, st => (xtb xI own k).map fun v => (ls, .inl (.int v.1) :: st, g)
  | .ldc_w k, st => (xtb xI own k).map fun v => (ls, .inl (.int v.1) :: st, g)
  | .ldc2_w k, st => (xtb xJ own k).map fun v => (ls, .inl (.long v.1) :: st, g)
  | .iload_n k, st => (jld g ls k 0).map fun v => (ls, v :: st, g)
  | .iload k, st => (jld g ls k 0).map fun v => (ls, v :: st, g)
  | .lload_n k, st => (jld g ls k 1).map fun v => (ls, v :: st, g)
  | .lload k, st => (jld g ls k 1).map fun v => (ls, v :: st, g)
  | .aload_n k, st => (jlr ls k).map fun v => (ls, v :: st, g)
  | .aload k, st => (jlr ls k).map fun v => (ls, v :: st, g)
  | .istore_n k, a :: st => bif jin g a 0 (-2147483648) 2147483647 && Nat.blt k nL then some (js1 g ls k a, st, g) else none
  | .istore k, a :: st => bif jin g a 0 (-2147483648) 2147483647 && Nat.blt k nL then some (js1 g ls k a, st, g) else none
  | .lstore_n k, a :: st => bif jin g a 1 (-9223372036854775808) 9223372036854775807 && Nat.blt (k + 1) nL then some (js2 g ls k a, st, g) else none
  | .lstore k, a :: st => bif jin g a 1 (-9223372036854775808) 9223372036854775807 && Nat.blt (k + 1) nL then some (js2 g ls k a, st, g) else none
  | .iinc k n, st => match jld g ls k 0 with
    | some a => bif Nat.blt k nL then (jar g 1 a (.inl (.int (Int32.ofInt n)))).map fun z => (js1 z.2 ls k z.1, st, z.2) else none
    | none => none
  | .dup, a :: st => bif Nat.beq (jcat g a) 1 then some (ls, a :: a :: st, g) else none
  | .pop, a :: st => bif Nat.beq (jcat g a) 1 then some (ls, st, g) else none
  | .dup2, a :: b :: st => bif Nat.beq (jcat g a) 1 && Nat.beq (jcat g b) 1 then some (ls, a :: b :: a :: b :: st, g) else none
  | i, a :: st => match juo i with
    | some o => (jar g o a (.inl (.int 0))).map fun z => (ls, z.1 :: st, z.2)
    | none => match jbo i, st with
      | some o, b :: st => (jar g o b a).map fun z => (ls, z.1 :: st, z.2)
      | _, _ => none
  | _, _ => none
/-- ends -/
def jrt (ret : Nat) (i : Instr) (st : List jV) (g : jS) : Option (Option jV) := match i, st with
  | .return_, [] => bif Nat.beq ret 0 then some none else none
  | .ireturn, [a] => bif Nat.beq ret 1 && jin g a 0 (-2147483648) 2147483647 then some (some (jnm g a)) else bif Nat.beq ret 2 && jin g a 0 0 1 then some (some (jnm g a)) else none
  | .lreturn, [a] => bif Nat.beq ret 3 && jin g a 1 (-9223372036854775808) 9223372036854775807 then some (some (jnm g a)) else none
  | _, _ => none
/-- calls -/
def jtk : Nat → List jV → List jV → Option (List jV × List jV)
  | 0, as, st => some (as, st)
  | n + 1, as, v :: st => jtk n (v :: as) st
  | _ + 1, _, [] => none
def jcs (g : jS) : List jV → Nat
  | [] => 0
  | a :: l => jcat g a + jcs g l
def jlv (g : jS) : Nat → List jV → jL
  | _, [] => []
  | i, a :: l => (i, a) :: jlv g (bif Nat.beq (jcat g a) 2 then i + 2 else i + 1) l
def jkw1 (g : jS) (a : jV) : Bool := match a with
  | .inl _ => true
  | .inr s => match xfd g.2.1 s with
    | some q => Nat.ble q.1 1
    | none => false
def jkw (g : jS) (l : List jV) : Bool := l.all (jkw1 g)
def jca (G : jGt) (own : Nat) (i : Instr) (st : List jV) : Option (Nat × List jV × List jV) := match i with
  | .invokevirtual idx => match xtb xC own idx with
    | some (y, n, _, nest) => match xM[y]?, jtk n [] st with
      | some (o, _, kind, _), some (as, .inl (.ref r) :: rest) => match jgc G r with
        | some (t, _) => bif Nat.blt y xOw && Nat.beq kind 1 && Nat.beq nest 0 && Nat.beq t o && Nat.blt t 13 then some (y, .inl (.ref r) :: as, rest) else none
        | none => none
      | _, _ => none
    | none => none
  | .invokestatic idx => match xtb xC own idx with
    | some (y, n, _, nest) => match xM[y]?, jtk n [] st with
      | some (_, _, kind, _), some (as, rest) => bif Nat.blt y xOw && Nat.beq kind 0 && Nat.beq nest 0 then some (y, as, rest) else none
      | _, _ => none
    | none => none
  | _ => none
def jmm (own : Nat) (i : Instr) (st : List jV) (g : jS) : Option (List jV × jS) := match i, st with
  | .invokestatic idx, b :: a :: rest => match xtb xC own idx with
    | some (m, _, _, nest) => bif Nat.beq nest 0 then (bif Nat.beq m xMx then (jar g 21 a b).map (fun z => (z.1 :: rest, z.2)) else bif Nat.beq m xMn then (jar g 22 a b).map (fun z => (z.1 :: rest, z.2)) else none) else none
    | none => none
  | _, _ => none
def jay (G : jGt) (W : List (Nat × Nat)) (own : Nat) (i : Instr) (st : List jV) (g : jS) : Option (List jV × jS) := match i, st with
  | .invokestatic idx, n :: dp :: .inl (.ref rd) :: sp :: .inl (.ref rs) :: rest => match xtb xY own idx, jgc G rs, jgc G rd, jbd g n with
    | some _, some (102, .inr b0), some (102, .inr b1), some q => bif jin g n 0 0 2147483647 && jin g sp 0 0 ((b0.1 : Int) - q.2.2) && jin g dp 0 0 ((b1.1 : Int) - q.2.2) && jwa W rd && decide (b1.2.1 ≤ b0.2.1) && decide (b0.2.2 ≤ b1.2.2) then
        some (rest, (g.1, g.2.1, g.2.2.1.filter (fun q => !Nat.beq q.1.1 rd), g.2.2.2.filter (fun q => !Nat.beq q.1.1 rd)))
      else none
    | _, _, _, _ => none
  | _, _ => none
/-! contracts: method, depth, arguments, fields before, writes, outcomes -/
abbrev jBx : Type := Value ⊕ (Nat × Int × Int)
abbrev jFd : Type := (Nat × Nat) × Int × Int × Bool
abbrev jOc : Type := Option (Nat × Int × Int) × List jFd
abbrev jC : Type := Nat × Nat × List jBx × List jFd × List (Nat × Nat) × List jOc
def jab (g : jS) : List jV → List jBx → Bool
  | [], [] => true
  | a :: as, .inl v :: bs => jve a (.inl v) && jab g as bs
  | a :: as, .inr b :: bs => jin g a b.1 b.2.1 b.2.2 && jab g as bs
  | _, _ => false
/-- what is known of a field, where nothing is new -/
def jfb (G : jGt) (g : jS) (r k : Nat) (lo hi : Int) : Bool := match jmg g.2.2.1 r k with
  | some a => jin g a 0 lo hi
  | none => match jgc G r with
    | some (_, .inl fs) => (match fs[k]? with
      | some (.inr b) => decide (lo ≤ b.1) && decide (b.2 ≤ hi)
      | _ => false)
    | _ => false
def jcf (G : jGt) (g : jS) (y : Nat) (as : List jV) : List jC → Option jC
  | [] => none
  | c :: cs => bif Nat.beq c.1 y && jab g as c.2.2.1 && c.2.2.2.1.all (fun f => jfb G g f.1.1 f.1.2 f.2.1 f.2.2.1) then some c else jcf G g y as cs
/-- fields that are to be there -/
def jfs (G : jGt) : jS → List jFd → Option (List jV × jS)
  | g, [] => some ([], g)
  | g, f :: fs => match jfl G g f.1.1 f.1.2 with
    | some z => (jfs G z.2 fs).map fun w => (z.1 :: w.1, w.2)
    | none => none
/-- new numbers for fields -/
def jnf : jS → List jFd → List jV → jS
  | g, f :: fs, e :: es => jnf (g.1 + 1, (g.1, (0, f.2.1, f.2.2.1, bif f.2.2.2 then some (0, e, .inl (.int 0)) else none)) :: g.2.1, ((f.1.1, f.1.2), .inr g.1) :: g.2.2.1, g.2.2.2) fs es
  | g, _, _ => g
def jdr (W : List (Nat × Nat)) (g : jS) : jS := (g.1, g.2.1, g.2.2.1.filter (fun q => !jw W q.1.1 q.1.2), g.2.2.2.filter (fun q => !jwr W q.1.1))
def jco (G : jGt) (g : jS) (c : jC) (o : jOc) : Option (Option jV × jS) := match jfs G g o.2 with
  | some z => match o.1 with
    | none => some (none, jnf (jdr c.2.2.2.2.1 z.2) o.2 z.1)
    | some b => some ((some (jfr (jnf (jdr c.2.2.2.2.1 z.2) o.2 z.1) (b.1, b.2.1, b.2.2, none)).1, (jfr (jnf (jdr c.2.2.2.2.1 z.2) o.2 z.1) (b.1, b.2.1, b.2.2, none)).2))
  | none => none
/-! loops -/
/-- a constant that is added, where nothing wraps: to what, how much -/
def jad (g : jS) (a : jV) : Option (jV × Int) := match a with
  | .inr s => match xfd g.2.1 s with
    | some q => match q.2.2.2 with
      | some (1, b, .inl (.int c)) => match jbd g b with
        | some p => bif decide (-2147483648 ≤ p.2.1 + c.toInt) && decide (p.2.2 + c.toInt ≤ 2147483647) then some (b, c.toInt) else none
        | none => none
      | some (2, b, .inl (.int c)) => match jbd g b with
        | some p => bif decide (-2147483648 ≤ p.2.1 - c.toInt) && decide (p.2.2 - c.toInt ≤ 2147483647) then some (b, -c.toInt) else none
        | none => none
      | _ => none
    | none => none
  | .inl _ => none
def jof (g : jS) (a : jV) : Option jD := match a with
  | .inr s => match xfd g.2.1 s with
    | some q => q.2.2.2
    | none => none
  | .inl _ => none
/-- v - b is no less than t -/
def jdl : Nat → jS → jV → jV → Int → Bool
  | n, g, v, b, t => (jve v b && decide (t ≤ 0)) || ((match n with
      | 0 => false
      | n + 1 => match jof g v with
        | some (0, a, _) => jdl n g a b t
        | _ => (match jad g v with
          | some z => jdl n g z.1 b (t - z.2)
          | none => false)) || ((match jbd g v, jbd g b with
      | some p, some q => decide (t ≤ p.2.1 - q.2.2)
      | _, _ => false) || ((match n with
      | 0 => false
      | n + 1 => match jad g b with
        | some z => jdl n g v z.1 (t + z.2)
        | none => false) || (match v, b with
      | .inr _, .inr _ => decide (t ≤ 1) && (match jvn g.2.1 (some (23, b, v)) with
        | some z => (match jbd g (.inr z) with
          | some p => decide (p.2.2 ≤ -1)
          | none => false)
        | none => false)
      | _, _ => false))))
/-- v - b is no more than t -/
def jdu : Nat → jS → jV → jV → Int → Bool
  | n, g, v, b, t => (jve v b && decide (0 ≤ t)) || ((match jbd g v, jbd g b with
      | some p, some q => decide (p.2.2 - q.2.1 ≤ t)
      | _, _ => false) || (match n with
      | 0 => false
      | n + 1 => match jof g v with
        | some (6, x, y) => (match jbd g x with | some p => decide (0 ≤ p.2.1) && jdu n g x b t | none => false) || (match jbd g y with | some p => decide (0 ≤ p.2.1) && jdu n g y b t | none => false)
        | _ => (match jad g v with
          | some z => jdu n g z.1 b (t - z.2)
          | none => false)))
/-- where a loop is cut: method, pc; locals and bounds; fields and bounds; what is forgotten; locals forgotten; counts up; which number counts -/
abbrev jA : Type := (Nat × Nat) × List (Nat × Int × Int) × List jFd × List (Nat × Nat) × List Nat × Bool × Nat
/-- a loop that is open: pc, first number, table there, locals, cells kept, bounds of locals, of fields, what fields were; counts up; which -/
abbrev jHd : Type := Nat × Nat × jTb × jL × (jM × jM) × List (Nat × Int × Int) × List jFd × List jV × Bool × Nat
def jhl : Nat → List (Nat × Int × Int) → jL
  | _, [] => []
  | n, q :: l => (q.1, .inr n) :: jhl (n + 1) l
def jht : Nat → List (Nat × Int × Int) → jTb
  | _, [] => []
  | n, q :: l => (n, (0, q.2.1, q.2.2, none)) :: jht (n + 1) l
def jhs (d : jHd) : jS := jnf (d.2.1 + d.2.2.2.2.2.1.length, jht d.2.1 d.2.2.2.2.2.1 ++ d.2.2.1, d.2.2.2.2.1.1, d.2.2.2.2.1.2) d.2.2.2.2.2.2.1 d.2.2.2.2.2.2.2.1
def jhv (d : jHd) : jL := jhl d.2.1 d.2.2.2.2.2.1 ++ d.2.2.2.1
def jsm (g : jS) (a b : jV) : Bool := jve (jnm g a) (jnm g b)
def jop1 (d : jHd) (g : jS) (ls : jL) : Bool :=
  d.2.2.2.2.2.1.all (fun q => match xfd ls q.1 with | some a => jin g a 0 q.2.1 q.2.2 | none => false) &&
  d.2.2.2.1.all (fun q => match xfd ls q.1 with | some a => jsm g a q.2 | none => false) &&
  d.2.2.2.2.1.1.all (fun q => match jmg g.2.2.1 q.1.1 q.1.2 with | some a => jsm g a q.2 | none => false) &&
  d.2.2.2.2.1.2.all (fun q => match jmg g.2.2.2 q.1.1 q.1.2 with | some a => jsm g a q.2 | none => false)
def jop2 (g : jS) : List jFd → List jV → Bool
  | [], [] => true
  | f :: fs, e :: es => (match jmg g.2.2.1 f.1.1 f.1.2 with
    | some a => jin g a 0 f.2.1 f.2.2.1 && (!f.2.2.2 || jin g e 0 (-2147483648) 2147483647 && jdl 12 g a e 0)
    | none => false) && jop2 g fs es
  | _, _ => false
/-- the state fits the loop -/
def jfit (d : jHd) (g : jS) (ls : jL) : Bool := jop1 d g ls && jop2 g d.2.2.2.2.2.2.1 d.2.2.2.2.2.2.2.1
/-- the value that counts -/
def jcv (d : jHd) (g : jS) (ls : jL) : Option jV := match d.2.2.2.2.2.1[d.2.2.2.2.2.2.2.2.2]? with
  | some q => xfd ls q.1
  | none => match d.2.2.2.2.2.2.1[d.2.2.2.2.2.2.2.2.2 - d.2.2.2.2.2.1.length]? with
    | some f => jmg g.2.2.1 f.1.1 f.1.2
    | none => none
def jms (d : jHd) (g : jS) (ls : jL) : Bool := match jcv d g ls with
  | some a => bif d.2.2.2.2.2.2.2.2.1 then jdl 12 g a (.inr (d.2.1 + d.2.2.2.2.2.2.2.2.2)) 1
    else jdu 12 g a (.inr (d.2.1 + d.2.2.2.2.2.2.2.2.2)) (-1)
  | none => false
def jen (G : jGt) (A : jA) (g : jS) (ls : jL) : Option (jHd × jS) := match jfs G g A.2.2.1 with
  | some z => some ((A.1.2, z.2.1, z.2.2.1, ls.filter (fun q => !(A.2.1.any (fun p => Nat.beq p.1 q.1)) && !(A.2.2.2.2.1.any (fun p => Nat.beq p q.1))),
      (z.2.2.2.1.filter (fun q => !jw A.2.2.2.1 q.1.1 q.1.2 && !(A.2.2.1.any (fun f => Nat.beq f.1.1 q.1.1 && Nat.beq f.1.2 q.1.2))), z.2.2.2.2.filter (fun q => !jwr A.2.2.2.1 q.1.1)), A.2.1, A.2.2.1, z.1, A.2.2.2.2.2.1, A.2.2.2.2.2.2), z.2)
  | none => none
/-- environment: cells' bounds, writes, contracts, loops, splits (method, pc, local; 99: top of the stack) -/
abbrev jE : Type := jGt × List (Nat × Nat) × List jC × List jA × List ((Nat × Nat) × Nat)
abbrev jFr : Type := Nat × xQ × Nat × jL × List jV × List jHd
def jan (L : List jA) (m pc : Nat) : Option jA := List.rec (motive := fun _ => Option jA) none (fun a _ ih => bif Nat.beq a.1.1 m && Nat.beq a.1.2 pc then some a else ih) L
theorem jan_cons {a : jA} {l : List jA} {m pc : Nat} : jan (a :: l) m pc = bif Nat.beq a.1.1 m && Nat.beq a.1.2 pc then some a else jan l m pc := rfl
def jsp (L : List ((Nat × Nat) × Nat)) (m pc : Nat) : Option Nat := List.rec (motive := fun _ => Option Nat) none (fun a _ ih => bif Nat.beq a.1.1 m && Nat.beq a.1.2 pc then some a.2 else ih) L
def jhf (L : List jHd) (pc : Nat) : Option jHd := match L with
  | [] => none
  | a :: l => bif Nat.beq a.1 pc then some a else jhf l pc
def jsv (l : Nat) (ls : jL) (st : List jV) : Option jV := bif Nat.beq l 99 then st.head? else xfd ls l
def jrg : Nat → Int → List Int
  | 0, _ => []
  | n + 1, lo => lo :: jrg n (lo + 1)
/-- the values of a split; none: nothing is to be split -/
def jsl (E : jE) (sk : Bool) (m pc : Nat) (ls : jL) (st : List jV) (g : jS) : Option (jV × List Int) := bif sk then none else match jsp E.2.2.2.2 m pc with
  | some l => match jsv l ls st with
    | some a => match jnm g a with
      | .inr s => match jbd g (.inr s) with
        | some p => some (.inr s, jrg (p.2.2 - p.2.1 + 1).toNat p.2.1)
        | none => none
      | .inl _ => none
    | none => none
  | none => none
def jmt (l : List jV) : Bool := match l with
  | [] => true
  | _ => false
abbrev jRc : Type := Bool → Nat → List jFr → List jHd → Nat → xQ → Nat → jL → List jV → jS → Bool
def jxb (E : jE) (bot : jS → Option jV → Bool) (rc : jRc) (sk : Bool) (dd : Nat) (fr : List jFr) (cx : List jHd) (m : Nat) (q : xQ) (pc : Nat) (ls : jL) (st : List jV) (g : jS) : Bool :=
  match (bif sk then none else jan E.2.2.2.1 m pc) with
    | some A => jmt st && (match jhf cx pc with
      | some d => jfit d g ls && jms d g ls
      | none => match jen E.1 A g ls with
        | some z => (jfit z.1 z.2 ls && (jcv z.1 z.2 ls).isSome) && rc true dd fr (z.1 :: cx) m q pc (jhv z.1) [] (jhs z.1)
        | none => false)
    | none => match jsl E sk m pc ls st g with
      | some z => z.2.all fun k => match jcut 4 g z.1 k k with
        | some g2 => rc true dd fr cx m q pc ls st g2
        | none => true
      | none => match xcg q.2.2.2.2 pc with
        | none => false
        | some i => match jx1 q.1 q.2.1 i ls st g with
          | some z => rc false dd fr cx m q (pc + xil i) z.1 z.2.1 z.2.2
          | none => match jbr i pc st g with
            | some l => l.all fun t => rc false dd fr cx m q t.1 ls t.2.1 t.2.2
            | none => match jho E.1 E.2.1 q.1 i st g with
              | some z => rc false dd fr cx m q (pc + xil i) ls z.1 z.2
              | none => match jrt q.2.2.2.1 i st g with
                | some rv => (match fr with
                  | [] => bot g rv
                  | f :: fr => rc false (dd + 1) fr f.2.2.2.2.2 f.1 f.2.1 f.2.2.1 f.2.2.2.1 (rv.toList ++ f.2.2.2.2.1) g)
                | none => match dd with
                  | 0 => false
                  | dd + 1 => match jmm q.1 i st g with
                    | some z => Nat.ble (jcs g (z.1.drop 1)) 7 && rc false (dd + 1) fr cx m q (pc + 3) ls z.1 z.2
                    | none => match jay E.1 E.2.1 q.1 i st g with
                      | some z => Nat.ble (jcs g z.1) 8 && rc false (dd + 1) fr cx m q (pc + 3) ls z.1 z.2
                      | none => match jca E.1 q.1 i st with
                        | none => false
                        | some (y, as, rest) => match xM[y]? with
                          | none => false
                          | some q' => Nat.ble (jcs g rest) 8 && Nat.ble (jcs g as) q'.2.1 && (match jcf E.1 g y as E.2.2.1 with
                            | some c => Nat.ble c.2.1 dd && c.2.2.2.2.1.all (fun w => bif Nat.beq w.2 9999 then jwa E.2.1 w.1 else jw E.2.1 w.1 w.2) && c.2.2.2.2.2.all (fun o => match jco E.1 g c o with
                              | some z => rc false (dd + 1) fr cx m q (pc + 3) ls (z.1.toList ++ rest) z.2
                              | none => false)
                            | none => jkw g as && rc false dd ((m, q, pc + 3, ls, rest, cx) :: fr) [] y q' 0 (jlv g 0 as) [] g)
/-- work out a list's places, a number, before going on -/
def jf1 {α : Type} (l : List α) (k : List α → Bool) : Bool := List.rec (motive := fun _ => (List α → Bool) → Bool) (fun k => k []) (fun a _ ih k => ih fun l => k (a :: l)) l k
theorem jf1_cons {α : Type} {a : α} {l : List α} {k : List α → Bool} : jf1 (a :: l) k = jf1 l fun l => k (a :: l) := rfl
def jfn (n : Nat) (k : Nat → Bool) : Bool := match n with
  | 0 => k 0
  | n + 1 => k (n + 1)
theorem jf1_eq {α : Type} : ∀ (l : List α) (k : List α → Bool), jf1 l k = k l
  | [], _ => rfl
  | a :: l, k => by rw [jf1_cons, jf1_eq l]
theorem jfn_eq (n : Nat) (k : Nat → Bool) : jfn n k = k n := by cases n <;> rfl
def jx (E : jE) (bot : jS → Option jV → Bool) : Nat → jRc
  | 0 => fun _ _ _ _ _ _ _ _ _ _ => false
  | n + 1 => fun sk dd fr cx m q pc ls st g => jfn pc fun pc => jf1 ls fun ls => jf1 st fun st => jfn g.1 fun x => jf1 g.2.1 fun tb => jf1 g.2.2.1 fun mf => jf1 g.2.2.2 fun ml => jxb E bot (jx E bot n) sk dd fr cx m q pc ls st (x, tb, mf, ml)
theorem jx_succ (E : jE) (bot : jS → Option jV → Bool) (n : Nat) (sk : Bool) (dd : Nat) (fr : List jFr) (cx : List jHd) (m : Nat) (q : xQ) (pc : Nat) (ls : jL) (st : List jV) (g : jS) : jx E bot (n + 1) sk dd fr cx m q pc ls st g = jxb E bot (jx E bot n) sk dd fr cx m q pc ls st g := by
  rw [jx]
  simp only [jfn_eq, jf1_eq]
end
