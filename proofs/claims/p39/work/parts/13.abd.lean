/-! intervals: jumps, cells, ends, calls, runs -/
def acl (p q : Int × Int) : Option Bool := bif decide (p.2 < q.1) then some true else bif decide (q.2 ≤ p.1) then some false else none
def ace (p q : Int × Int) : Option Bool := bif decide (p.1 = p.2) && decide (q.1 = q.2) && decide (p.1 = q.1) then some true else bif decide (p.2 < q.1) || decide (q.2 < p.1) then some false else none
def acmp (c : ClassFile.Cond) (p q : Int × Int) : Option Bool := match c with
  | .lt => acl p q
  | .ge => (acl p q).map fun b => !b
  | .gt => acl q p
  | .le => (acl q p).map fun b => !b
  | .eq => ace p q
  | .ne => (ace p q).map fun b => !b
def abr (i : Instr) (pc : Nat) (st : List aV) : Option (Nat × List aV) := match i, st with
  | .goto o, st => (xtg pc o).map fun t => (t, st)
  | .ifCond c o, a :: st => match ai a with
    | some p => match acmp c p (0, 0), xtg pc o with
      | some b, some t => some (bif b then t else pc + 3, st)
      | _, _ => none
    | none => none
  | .if_icmp c o, b :: a :: st => match ai a, ai b with
    | some p, some q => match acmp c p q, xtg pc o with
      | some b, some t => some (bif b then t else pc + 3, st)
      | _, _ => none
    | _, _ => none
  | .tableswitch d lo hi offs, a :: st => match aex a with
    | none => match ai a with
      | some p => bif decide (p.2 < lo) || decide (hi < p.1) then (xtg pc d).map fun t => (t, st) else none
      | none => none
    | some x => if x.toInt < lo ∨ hi < x.toInt then (xtg pc d).map fun t => (t, st)
      else match offs[(x.toInt - lo).toNat]? with
        | some o => (xtg pc o).map fun t => (t, st)
        | none => none
  | _, _ => none
def afit (c : Nat) (a : aV) : Bool := match c % 10 with
  | 0 => (ai a).isSome
  | 1 => (match aex a with
    | some x => x == 0 || x == 1
    | none => false)
  | _ => false
def a01 (a : aV) : Bool := match aex a with
  | some x => x == 0 || x == 1
  | none => false
def aho (ro : List (List aV)) (own : Nat) (i : Instr) (st : List aV) (h : aH) : Option (List aV × aH) := match i, st with
  | .getfield idx, .inl (.ref r) :: st => match xtb xF own idx, h[r]? with
    | some (ci, k, _), some (t, fs) => bif Nat.beq t ci then (fs[k]?).map fun v => (v :: st, h) else none
    | _, _ => none
  | .putfield idx, v :: .inl (.ref r) :: st => match xtb xF own idx, h[r]? with
    | some (ci, k, _), some (t, fs) => bif Nat.beq t ci && Nat.blt k fs.length then
        match xT[ci]? with
        | some cs => match cs[k]? with
          | some c => bif afit c v && Nat.blt c 10 then some (st, h.set r (t, fs.set k v)) else none
          | none => none
        | none => none
      else none
    | _, _ => none
  | .iaload, j :: .inl (.ref r) :: st => match h[r]?, aex j with
    | some (t, vs), some j => bif Nat.beq t 100 then if j < 0 then none else match vs[j.toNatClampNeg]? with
        | some a => (ai a).map fun _ => (a :: st, h)
        | none => none
      else none
    | _, _ => none
  | .iaload, j :: .inl (.retAddr q) :: st => match ro[q]?, aex j with
    | some vs, some j => if j < 0 then none else match vs[j.toNatClampNeg]? with
        | some a => (ai a).map fun _ => (a :: st, h)
        | none => none
    | _, _ => none
  | .baload, j :: .inl (.ref r) :: st => match h[r]?, aex j with
    | some (t, vs), some j => bif Nat.beq t 101 then if j < 0 then none else match vs[j.toNatClampNeg]? with
        | some a => (ai a).map fun _ => (a :: st, h)
        | none => none
      else none
    | _, _ => none
  | .laload, j :: .inl (.ref r) :: st => match h[r]?, aex j with
    | some (t, vs), some j => bif Nat.beq t 102 then if j < 0 then none else match vs[j.toNatClampNeg]? with
        | some a => (aj a).map fun _ => (a :: st, h)
        | none => none
      else none
    | _, _ => none
  | .iastore, a :: j :: .inl (.ref r) :: st => match h[r]?, aex j with
    | some (t, vs), some j => bif Nat.beq t 100 && Nat.blt j.toNatClampNeg vs.length && (ai a).isSome then if j < 0 then none else some (st, h.set r (t, vs.set j.toNatClampNeg a)) else none
    | _, _ => none
  | .bastore, a :: j :: .inl (.ref r) :: st => match h[r]?, aex j with
    | some (t, vs), some j => bif Nat.beq t 101 && Nat.blt j.toNatClampNeg vs.length && a01 a then if j < 0 then none else some (st, h.set r (t, vs.set j.toNatClampNeg a)) else none
    | _, _ => none
  | .lastore, a :: j :: .inl (.ref r) :: st => match h[r]?, aex j with
    | some (t, vs), some j => bif Nat.beq t 102 && Nat.blt j.toNatClampNeg vs.length && (aj a).isSome then if j < 0 then none else some (st, h.set r (t, vs.set j.toNatClampNeg a)) else none
    | _, _ => none
  | .arraylength, .inl (.retAddr q) :: st => bif Nat.beq q 0 then (ro[q]?).map fun xs => (.inl (.int (Int32.ofNat xs.length)) :: st, h) else none
  | .getstatic idx, st => (xtb xG own idx).map fun k => (.inl (.retAddr k.1) :: st, h)
  | _, _ => none
def art (ret : Nat) (i : Instr) (st : List aV) : Option (Option aV) := match i, st with
  | .return_, [] => bif Nat.beq ret 0 then some none else none
  | .ireturn, [a] => bif Nat.beq ret 1 && (ai a).isSome then some (some a) else bif Nat.beq ret 2 && a01 a then some (some a) else none
  | .lreturn, [a] => bif Nat.beq ret 3 && (aj a).isSome then some (some a) else none
  | _, _ => none
def atk : Nat → List aV → List aV → Option (List aV × List aV)
  | 0, as, st => some (as, st)
  | n + 1, as, v :: st => atk n (v :: as) st
  | _ + 1, _, [] => none
def acs (l : List aV) : Nat := (l.map acat).sum
def alv : Nat → List aV → aL
  | _, [] => []
  | i, v :: vs => (i, v) :: alv (if acat v = 2 then i + 2 else i + 1) vs
def aca (own : Nat) (i : Instr) (st : List aV) (h : aH) : Option (Nat × List aV × List aV) := match i with
  | .invokevirtual idx => match xtb xC own idx with
    | some (y, n, _, nest) => match xM[y]?, atk n [] st with
      | some (o, _, kind, _), some (as, .inl (.ref r) :: rest) => match h[r]? with
        | some (t, _) => bif Nat.blt y xOw && Nat.beq kind 1 && Nat.beq nest 0 && Nat.beq t o && Nat.blt t 13 then some (y, .inl (.ref r) :: as, rest) else none
        | none => none
      | _, _ => none
    | none => none
  | .invokestatic idx => match xtb xC own idx with
    | some (y, n, _, nest) => match xM[y]?, atk n [] st with
      | some (_, _, kind, _), some (as, rest) => bif Nat.blt y xOw && Nat.beq kind 0 && Nat.beq nest 0 then some (y, as, rest) else none
      | _, _ => none
    | none => none
  | _ => none
def amm (own : Nat) (i : Instr) (st : List aV) : Option (List aV) := match i, st with
  | .invokestatic idx, b :: a :: rest => match xtb xC own idx with
    | some (m, _, _, nest) => match aex b, aex a with
      | some y, some x => bif Nat.beq nest 0 then (bif Nat.beq m xMx then some (.inl (.int (if x < y then y else x)) :: rest) else bif Nat.beq m xMn then some (.inl (.int (if y < x then y else x)) :: rest) else none) else none
      | _, _ => none
    | none => none
  | _, _ => none
def ax (ro : List (List aV)) : Nat → Nat → xQ → Nat → aL → List aV → aH → Option (Option aV × aH)
  | 0, _, _, _, _, _, _ => none
  | n + 1, d, q, pc, ls, st, h => match xcg q.2.2.2.2 pc with
    | none => none
    | some i => match as1 q.1 q.2.1 i ls st with
      | some (ls', st') => ax ro n d q (pc + xil i) ls' st' h
      | none => match abr i pc st with
        | some (pc', st') => ax ro n d q pc' ls st' h
        | none => match aho ro q.1 i st h with
          | some (st', h') => ax ro n d q (pc + xil i) ls st' h'
          | none => match art q.2.2.2.1 i st with
            | some r => some (r, h)
            | none => match d with
              | 0 => none
              | d' + 1 => match amm q.1 i st with
                | some rest => bif Nat.ble (acs rest) 8 then ax ro n (d' + 1) q (pc + 3) ls rest h else none
                | none => match aca q.1 i st h with
                | none => none
                | some (y, as, rest) => match xM[y]? with
                  | none => none
                  | some q' => bif Nat.ble (acs rest) 8 && Nat.ble (acs as) q'.2.1 then
                      match ax ro n d' q' 0 (alv 0 as) [] h with
                      | none => none
                      | some (r, h') => ax ro n (d' + 1) q (pc + 3) ls (r.toList ++ rest) h'
                    else none
