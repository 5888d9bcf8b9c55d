noncomputable section
/-! the bounded machine: values by number, bounds of cells, contracts, loops cut at points -/
abbrev jV : Type := Value ⊕ Nat
abbrev jD : Type := Nat × jV × jV
abbrev jRow : Type := Nat × Int × Int × Option jD
abbrev jTb : Type := List (Nat × jRow)
abbrev jM : Type := List ((Nat × Nat) × jV)
abbrev jS : Type := Nat × jTb × jM × jM
abbrev jP : Type := List (Value ⊕ List Value)
abbrev jL : Type := List (Nat × jV)
def jk (v : Value) : Nat := match v with
  | .int _ => 0
  | .long _ => 1
  | _ => 2
def jz (v : Value) : Int := match v with
  | .int x => x.toInt
  | .long x => x.toInt
  | _ => 0
def jR (r : jP) (a : jV) (v : Value) : Prop := match a with
  | .inl w => v = w
  | .inr s => r[s]? = some (.inl v)
def jve (a b : jV) : Bool := match a, b with
  | .inr s, .inr t => Nat.beq s t
  | .inl (.int x), .inl (.int y) => x == y
  | .inl (.long x), .inl (.long y) => x == y
  | .inl (.ref x), .inl (.ref y) => Nat.beq x y
  | .inl (.retAddr x), .inl (.retAddr y) => Nat.beq x y
  | _, _ => false
def jbd (g : jS) (a : jV) : Option (Nat × Int × Int) := match a with
  | .inl (.int x) => some (0, x.toInt, x.toInt)
  | .inl (.long x) => some (1, x.toInt, x.toInt)
  | .inl _ => none
  | .inr s => (xfd g.2.1 s).map fun q => (q.1, q.2.1, q.2.2.1)
def jnm (g : jS) (a : jV) : jV := match a with
  | .inl v => .inl v
  | .inr s => match xfd g.2.1 s with
    | some q => bif Nat.beq q.1 0 && decide (q.2.1 = q.2.2.1) then .inl (.int (Int32.ofInt q.2.1)) else .inr s
    | none => .inr s
def jcat (g : jS) (a : jV) : Nat := match a with
  | .inl v => v.category
  | .inr s => match xfd g.2.1 s with
    | some q => bif Nat.beq q.1 0 then 1 else 2
    | none => 2
/-- a new number -/
def jfr (g : jS) (q : jRow) : jV × jS := (.inr g.1, (g.1 + 1, (g.1, q) :: g.2.1, g.2.2.1, g.2.2.2))
/-- what an operation gives: 0 is 'no less than' -/
def jop (o : Nat) (x y : Value) : Option Value := match o, x, y with
  | 1, .int x, .int y => some (.int (x + y))
  | 2, .int x, .int y => some (.int (x - y))
  | 3, .int x, .int y => some (.int (x * y))
  | 4, .int x, .int y => bif decide (y = 0) then none else some (.int (x / y))
  | 5, .int x, .int y => bif decide (y = 0) then none else some (.int (x - x / y * y))
  | 6, .int x, .int y => some (.int (x &&& y))
  | 7, .int x, .int y => some (.int (x ||| y))
  | 8, .int x, .int y => some (.int (x ^^^ y))
  | 9, .int x, .int y => some (.int (x <<< (y &&& 31)))
  | 10, .int x, .int y => some (.int (x >>> (y &&& 31)))
  | 11, .int x, .int y => some (.int (x.toUInt32 >>> (y.toUInt32 &&& Int32.toUInt32 31)).toInt32)
  | 12, .int x, .int _ => some (.int (-x))
  | 13, .int x, .int _ => some (.long x.toInt64)
  | 14, .long x, .int _ => some (.int x.toInt32)
  | 15, .int x, .int _ => some (.int x.toInt8.toInt32)
  | 16, .int x, .int _ => some (.int x.toInt16.toInt32)
  | 17, .long x, .long y => some (.int (lg_cmp x y))
  | 21, .int x, .int y => some (.int (if x < y then y else x))
  | 22, .int x, .int y => some (.int (if y < x then y else x))
  | 23, .int x, .int y => some (.int (if x < y then -1 else if x = y then 0 else 1))
  | _, _, _ => none
/-- kinds of what goes in, of what comes -/
def jkd (o : Nat) : Nat × Nat × Nat := match o with
  | 13 => (0, 0, 1)
  | 14 => (1, 0, 0)
  | 17 => (1, 1, 0)
  | _ => (0, 0, 0)
abbrev jF : Int × Int := (-2147483648, 2147483647)
def jft (l h : Int) : Int × Int := bif decide (-2147483648 ≤ l) && decide (h ≤ 2147483647) then (l, h) else jF
/-- the least of 2^k - 1 that is no less -/
def jpw (h : Int) : Option Int := bif decide (h ≤ 1) then some 1 else bif decide (h ≤ 3) then some 3 else bif decide (h ≤ 7) then some 7 else bif decide (h ≤ 15) then some 15 else bif decide (h ≤ 31) then some 31 else bif decide (h ≤ 63) then some 63 else bif decide (h ≤ 127) then some 127 else bif decide (h ≤ 255) then some 255 else bif decide (h ≤ 511) then some 511 else bif decide (h ≤ 1023) then some 1023 else none
def jmi (a b : Int) : Int := bif decide (a ≤ b) then a else b
def jma (a b : Int) : Int := bif decide (a ≤ b) then b else a
def jbn (o : Nat) (a b : Int × Int) : Int × Int := match o with
  | 1 => jft (a.1 + b.1) (a.2 + b.2)
  | 2 => jft (a.1 - b.2) (a.2 - b.1)
  | 3 => bif decide (0 ≤ a.1) && decide (0 ≤ b.1) then jft (a.1 * b.1) (a.2 * b.2) else jF
  | 4 => bif decide (b.1 = b.2) && decide (0 < b.1) then (a.1.tdiv b.1, a.2.tdiv b.1) else jF
  | 5 => bif decide (b.1 = b.2) && decide (0 < b.1) && decide (0 ≤ a.1) then (0, jmi a.2 (b.1 - 1)) else jF
  | 6 => bif decide (0 ≤ a.1) then (0, bif decide (0 ≤ b.1) then jmi a.2 b.2 else a.2) else bif decide (0 ≤ b.1) then (0, b.2) else jF
  | 7 => bif decide (0 ≤ a.1) && decide (0 ≤ b.1) then (match jpw (jma a.2 b.2) with | some m => (0, m) | none => jF) else jF
  | 8 => bif decide (0 ≤ a.1) && decide (0 ≤ b.1) then (match jpw (jma a.2 b.2) with | some m => (0, m) | none => jF) else jF
  | 9 => bif decide (0 ≤ a.1) && decide (0 ≤ b.1) && decide (b.2 ≤ 30) && decide (a.2 * 2 ^ b.2.toNat ≤ 2147483647) then (a.1 * 2 ^ b.1.toNat, a.2 * 2 ^ b.2.toNat) else jF
  | 13 => a
  | 14 => bif decide (-2147483648 ≤ a.1) && decide (a.2 ≤ 2147483647) then a else jF
  | 17 => bif decide (a.2 < b.1) then (-1, -1) else bif decide (b.2 < a.1) then (1, 1) else (-1, 1)
  | 22 => (jmi a.1 b.1, jmi a.2 b.2)
  | 23 => bif decide (a.2 < b.1) then (-1, -1) else bif decide (b.2 < a.1) then (1, 1) else (-1, 1)
  | _ => jF
/-- cut a value's bounds; none: nothing is left -/
def jcr (g : jS) (s : Nat) (q : jRow) (lo hi : Int) : jS := (g.1, (s, (q.1, jma q.2.1 lo, jmi q.2.2.1 hi, q.2.2.2)) :: g.2.1, g.2.2.1, g.2.2.2)
def jcut : Nat → jS → jV → Int → Int → Option jS
  | _, g, .inl v, lo, hi => bif decide (lo ≤ jz v) && decide (jz v ≤ hi) then some g else none
  | 0, g, .inr s, lo, hi => match xfd g.2.1 s with
    | none => some g
    | some q => bif decide (jmi q.2.2.1 hi < jma q.2.1 lo) then none
      else bif decide (lo ≤ q.2.1) && decide (q.2.2.1 ≤ hi) then some g
      else some (jcr g s q lo hi)
  | n + 1, g, .inr s, lo, hi => match xfd g.2.1 s with
    | none => some g
    | some q => bif decide (jmi q.2.2.1 hi < jma q.2.1 lo) then none
      else bif decide (lo ≤ q.2.1) && decide (q.2.2.1 ≤ hi) then some g
      else match q.2.2.2 with
          | some (13, a, _) => jcut n (jcr g s q lo hi) a (jma q.2.1 lo) (jmi q.2.2.1 hi)
          | some (1, a, b) => match jbd g a, jbd g b with
            | some p, some t => bif decide (-2147483648 ≤ p.2.1 + t.2.1) && decide (p.2.2 + t.2.2 ≤ 2147483647) then
                (jcut n (jcr g s q lo hi) a (jma q.2.1 lo - t.2.2) (jmi q.2.2.1 hi - t.2.1)).bind fun g2 => jcut n g2 b (jma q.2.1 lo - p.2.2) (jmi q.2.2.1 hi - p.2.1)
              else some (jcr g s q lo hi)
            | _, _ => some (jcr g s q lo hi)
          | some (2, a, b) => match jbd g a, jbd g b with
            | some p, some t => bif decide (-2147483648 ≤ p.2.1 - t.2.2) && decide (p.2.2 - t.2.1 ≤ 2147483647) then
                (jcut n (jcr g s q lo hi) a (jma q.2.1 lo + t.2.1) (jmi q.2.2.1 hi + t.2.2)).bind fun g2 => jcut n g2 b (p.2.1 - jmi q.2.2.1 hi) (p.2.2 - jma q.2.1 lo)
              else some (jcr g s q lo hi)
            | _, _ => some (jcr g s q lo hi)
          | _ => some (jcr g s q lo hi)
def jde (d e : Option jD) : Bool := match d, e with
  | some a, some b => Nat.beq a.1 b.1 && jve a.2.1 b.2.1 && jve a.2.2 b.2.2
  | _, _ => false
def jvn (t : jTb) (d : Option jD) : Option Nat := List.rec (motive := fun _ => Option Nat) none (fun q _ ih => bif jde q.2.2.2.2 d then some q.1 else ih) t
theorem jvn_cons {q : Nat × jRow} {t : jTb} {d : Option jD} : jvn (q :: t) d = bif jde q.2.2.2.2 d then some q.1 else jvn t d := rfl
def jvo (o : Nat) : Bool := match o with
  | 0 => false
  | 18 => false
  | 19 => false
  | 20 => false
  | o => Nat.blt o 24
def jdk (o : Nat) (l h : Int) : Bool := jvo o && bif Nat.beq o 4 || Nat.beq o 5 then decide (0 < l) || decide (h < 0) else true
def jar1 (g : jS) (o : Nat) (a b : jV) : Option (jV × jS) := match jbd g a, jbd g b with
  | some p, some q => bif Nat.beq p.1 (jkd o).1 && Nat.beq q.1 (jkd o).2.1 && jdk o q.2.1 q.2.2 then
      match jvn g.2.1 (some (o, a, b)) with
      | some s => (jcut 3 g (.inr s) (jbn o p.2 q.2).1 (jbn o p.2 q.2).2).map fun g2 => (jnm g2 (.inr s), g2)
      | none => some (jfr g ((jkd o).2.2, (jbn o p.2 q.2).1, (jbn o p.2 q.2).2, some (o, a, b)))
    else none
  | _, _ => none
def jsw (o : Nat) (a : jV) : Bool := (Nat.beq o 1 || Nat.beq o 3) && (match a with | .inl _ => true | .inr _ => false)
def jar2 (g : jS) (o : Nat) (a b : jV) : Option (jV × jS) := match a, b with
  | .inl x, .inl y => (jop o x y).map fun v => (.inl v, g)
  | a, b => bif jsw o a then jar1 g o b a else jar1 g o a b
def jar (g : jS) (o : Nat) (a b : jV) : Option (jV × jS) := jar2 g o (jnm g a) (jnm g b)
/-! branches -/
def jgq (g : jS) (b a : jV) : Bool := match b with
  | .inr s => match xfd g.2.1 s with
    | some q => match q.2.2.2 with
      | some (0, c, _) => jve c a
      | _ => false
    | none => false
  | .inl _ => false
/-- a fact on two numbers -/
def jfa (g : jS) (a b : jV) (lo hi : Int) : Option jS := match a, b with
  | .inr s, .inr t => match jar1 g 23 (.inr s) (.inr t) with
    | some z => jcut 0 z.2 z.1 lo hi
    | none => some g
  | _, _ => some g
def jlt (g : jS) (a b : jV) : Option jS := (jfa g a b (-1) (-1)).bind fun g => match jbd g a, jbd g b with
  | some _, some q => (jcut 4 g a (-9223372036854775808) (q.2.2 - 1)).bind fun g2 => match jbd g2 a with
    | some p => jcut 4 g2 b (p.2.1 + 1) 9223372036854775807
    | none => some g2
  | _, _ => some g
def jge (g : jS) (a b : jV) : Option jS := (jfa g a b 0 1).bind fun g => match jbd g a, jbd g b with
  | some _, some q => (jcut 4 g a q.2.1 9223372036854775807).bind fun g2 => match jbd g2 a with
    | some p => jcut 4 g2 b (-9223372036854775808) p.2.2
    | none => some g2
  | _, _ => some g
def jeq (g : jS) (a b : jV) : Option jS := match jbd g a, jbd g b with
  | some p, some q => (jcut 4 g a q.2.1 q.2.2).bind fun g2 => jcut 4 g2 b p.2.1 p.2.2
  | _, _ => some g
def jne (g : jS) (a b : jV) : List jS := bif jgq g b a then (jlt g a b).toList else bif jgq g a b then (jlt g b a).toList else match jbd g a, jbd g b with
  | some p, some q => bif decide (q.2.1 = q.2.2) then (jcut 4 g a (-9223372036854775808) (q.2.1 - 1)).toList ++ (jcut 4 g a (q.2.1 + 1) 9223372036854775807).toList
    else bif decide (p.2.1 = p.2.2) then (jcut 4 g b (-9223372036854775808) (p.2.1 - 1)).toList ++ (jcut 4 g b (p.2.1 + 1) 9223372036854775807).toList
    else [g]
  | _, _ => [g]
def jrf (g : jS) (c : ClassFile.Cond) (a b : jV) : List jS := match c with
  | .lt => (jlt g a b).toList
  | .ge => (jge g a b).toList
  | .gt => (jlt g b a).toList
  | .le => (jge g b a).toList
  | .eq => (jeq g a b).toList
  | .ne => jne g a b
def jng (c : ClassFile.Cond) : ClassFile.Cond := match c with
  | .lt => .ge
  | .ge => .lt
  | .gt => .le
  | .le => .gt
  | .eq => .ne
  | .ne => .eq
/-- an answer of lcmp -/
def jlc (g : jS) (a : jV) : Option (jV × jV) := match a with
  | .inr s => match xfd g.2.1 s with
    | some q => match q.2.2.2 with
      | some (17, x, y) => some (x, y)
      | _ => none
    | none => none
  | .inl _ => none
def jb2 (g : jS) (c : ClassFile.Cond) (a b : jV) (t f : Nat) (st : List jV) : List (Nat × List jV × jS) := (jrf g c a b).map (fun g => (t, st, g)) ++ (jrf g (jng c) a b).map (fun g => (f, st, g))
def jsk (g : jS) (a : jV) (pc : Nat) (st : List jV) : List (Int × Int) → List (Nat × List jV × jS)
  | [] => []
  | q :: l => match jcut 4 g a q.1 q.1, xtg pc q.2 with
    | some g2, some t => (t, st, g2) :: jsk g a pc st l
    | _, _ => jsk g a pc st l
def jtz (lo : Int) (offs : List Int) : List (Int × Int) := match offs with
  | [] => []
  | o :: l => (lo, o) :: jtz (lo + 1) l
def jbr (i : Instr) (pc : Nat) (st : List jV) (g : jS) : Option (List (Nat × List jV × jS)) := match i, st with
  | .goto o, st => (xtg pc o).map fun t => [(t, st, g)]
  | .ifCond c o, a :: st => match jbd g a, xtg pc o with
    | some (0, _, _), some t => match jlc g a with
      | some p => some (jb2 g c p.1 p.2 t (pc + 3) st)
      | none => some (jb2 g c a (.inl (.int 0)) t (pc + 3) st)
    | _, _ => none
  | .if_icmp c o, b :: a :: st => match jbd g a, jbd g b, xtg pc o with
    | some (0, _, _), some (0, _, _), some t => some (jb2 g c a b t (pc + 3) st)
    | _, _, _ => none
  | .tableswitch d lo hi offs, a :: st => match jbd g a, xtg pc d with
    | some (0, _, _), some t => bif (jtz lo offs.toList).all (fun q => (xtg pc q.2).isSome) && decide (offs.toList.length = (hi - lo + 1).toNat) then some ((jcut 4 g a (-9223372036854775808) (lo - 1)).toList.map (fun g => (t, st, g)) ++ ((jcut 4 g a (hi + 1) 9223372036854775807).toList.map (fun g => (t, st, g)) ++ jsk g a pc st (jtz lo offs.toList))) else none
    | _, _ => none
  | .lookupswitch d ps, a :: st => match jbd g a, xtg pc d with
    | some (0, _, _), some t => bif (ps.toList.zip (ps.toList.drop 1)).all (fun (a, next) => a.1 < next.1) && ps.toList.all (fun q => (xtg pc q.2).isSome) then
        some (match jnm g a with
          | .inl (.int x) => (match xtg pc (Op.lookupswitch.offset ps.toList d x.toInt) with | some t => [(t, st, g)] | none => [])
          | _ => (t, st, g) :: jsk g a pc st ps.toList) else none
    | _, _ => none
  | _, _ => none
end
