noncomputable section
/-! a pure machine over numbered cells: what one step does, and a run with fuel and depth -/
abbrev xL : Type := List (Nat × Value)
abbrev xE : Type := Nat × List Value
abbrev xH : Type := List xE
def xr (own : Nat) : String := (xR[own]?).getD ""
def xfd {α : Type} (l : List (Nat × α)) (k : Nat) : Option α := List.rec (motive := fun _ => Option α) none (fun q _ ih => bif Nat.beq q.1 k then some q.2 else ih) l
theorem xfd_cons {α : Type} {q : Nat × α} {r : List (Nat × α)} {k : Nat} : xfd (q :: r) k = bif Nat.beq q.1 k then some q.2 else xfd r k := rfl
def xtb {α : Type} (t : List (List (Nat × α))) (own idx : Nat) : Option α := match t[own]? with
  | some l => xfd l idx
  | none => none
def xcg (c : xK) (pc : Nat) : Option Instr := match c[pc / 16]? with
  | some ch => xfd ch pc
  | none => none
/-- locals after a store of one slot, of two -/
def xs_1 (ls : xL) (i : Nat) (v : Value) : xL := (i, v) :: ls.filter (fun q => !(q.1 == i) && !(q.1 + 1 == i && q.2.category == 2))
def xs_2 (ls : xL) (i : Nat) (v : Value) : xL := (i, v) :: ls.filter (fun q => !(q.1 == i) && (!(q.1 == i + 1) && !(q.1 + 1 == i && q.2.category == 2)))
def xldi (ls : xL) (k : Nat) : Option Int32 := match xfd ls k with
  | some (.int x) => some x
  | _ => none
def xldl (ls : xL) (k : Nat) : Option Int64 := match xfd ls k with
  | some (.long x) => some x
  | _ => none
def xlda (ls : xL) (k : Nat) : Option Value := match xfd ls k with
  | some (.ref x) => some (.ref x)
  | some (.retAddr x) => some (.retAddr x)
  | _ => none
/-- what touches locals and stack alone -/
def xs1 (own nL : Nat) (i : Instr) (ls : xL) (st : List Value) : Option (xL × List Value) := match i, st with
  | .iconst n, st => some (ls, .int (Int32.ofInt n) :: st)
  | .bipush n, st => some (ls, .int (Int8.ofInt n).toInt32 :: st)
  | .sipush n, st => some (ls, .int (Int16.ofInt n).toInt32 :: st)
  | .lconst n, st => some (ls, .long (Int64.ofNat (n : Nat)) :: st)
  | .ldc k, st => (xtb xI own k).map fun v => (ls, .int v.1 :: st)
  | .ldc_w k, st => (xtb xI own k).map fun v => (ls, .int v.1 :: st)
  | .ldc2_w k, st => (xtb xJ own k).map fun v => (ls, .long v.1 :: st)
  | .iload_n k, st => (xldi ls k).map fun v => (ls, .int v :: st)
  | .iload k, st => (xldi ls k).map fun v => (ls, .int v :: st)
  | .lload_n k, st => (xldl ls k).map fun v => (ls, .long v :: st)
  | .lload k, st => (xldl ls k).map fun v => (ls, .long v :: st)
  | .aload_n k, st => (xlda ls k).map fun v => (ls, v :: st)
  | .aload k, st => (xlda ls k).map fun v => (ls, v :: st)
  | .istore_n k, .int x :: st => bif Nat.blt k nL then some (xs_1 ls k (.int x), st) else none
  | .istore k, .int x :: st => bif Nat.blt k nL then some (xs_1 ls k (.int x), st) else none
  | .astore_n k, .ref x :: st => bif Nat.blt k nL then some (xs_1 ls k (.ref x), st) else none
  | .lstore_n k, .long x :: st => bif Nat.blt (k + 1) nL then some (xs_2 ls k (.long x), st) else none
  | .lstore k, .long x :: st => bif Nat.blt (k + 1) nL then some (xs_2 ls k (.long x), st) else none
  | .iinc k n, st => match xldi ls k with
    | some x => bif Nat.blt k nL then some (xs_1 ls k (.int (x + Int32.ofInt n)), st) else none
    | none => none
  | .iadd, .int y :: .int x :: st => some (ls, .int (x + y) :: st)
  | .isub, .int y :: .int x :: st => some (ls, .int (x - y) :: st)
  | .imul, .int y :: .int x :: st => some (ls, .int (x * y) :: st)
  | .idiv, .int y :: .int x :: st => if y = 0 then none else some (ls, .int (x / y) :: st)
  | .irem, .int y :: .int x :: st => if y = 0 then none else some (ls, .int (x - x / y * y) :: st)
  | .ineg, .int x :: st => some (ls, .int (-x) :: st)
  | .iand, .int y :: .int x :: st => some (ls, .int (x &&& y) :: st)
  | .ior, .int y :: .int x :: st => some (ls, .int (x ||| y) :: st)
  | .ixor, .int y :: .int x :: st => some (ls, .int (x ^^^ y) :: st)
  | .ishl, .int y :: .int x :: st => some (ls, .int (x <<< (y &&& 31)) :: st)
  | .ishr, .int y :: .int x :: st => some (ls, .int (x >>> (y &&& 31)) :: st)
  | .iushr, .int y :: .int x :: st => some (ls, .int (x.toUInt32 >>> (y.toUInt32 &&& Int32.toUInt32 31)).toInt32 :: st)
  | .i2l, .int x :: st => some (ls, .long x.toInt64 :: st)
  | .l2i, .long x :: st => some (ls, .int x.toInt32 :: st)
  | .i2b, .int x :: st => some (ls, .int x.toInt8.toInt32 :: st)
  | .i2s, .int x :: st => some (ls, .int x.toInt16.toInt32 :: st)
  | .lshl, .int y :: .long x :: st => some (ls, .long (x <<< (y.toInt64 &&& 63)) :: st)
  | .lor, .long y :: .long x :: st => some (ls, .long (x ||| y) :: st)
  | .land, .long y :: .long x :: st => some (ls, .long (x &&& y) :: st)
  | .lcmp, .long y :: .long x :: st => some (ls, .int (lg_cmp x y) :: st)
  | .dup, v :: st => if v.category = 1 then some (ls, v :: v :: st) else none
  | .pop, v :: st => if v.category = 1 then some (ls, st) else none
  | .dup2, v :: u :: st => if v.category = 1 ∧ u.category = 1 then some (ls, v :: u :: v :: u :: st) else none
  | .pop2, v :: st => if v.category = 2 then some (ls, st) else none
  | _, _ => none
def xtg (pc : Nat) (o : Int) : Option Nat := match (pc : Int) + o with
  | .ofNat t => some t
  | .negSucc _ => none
def xcmp (c : ClassFile.Cond) (x y : Int32) : Bool := match c with
  | .eq => decide (x = y)
  | .ne => decide (¬ x = y)
  | .lt => decide (x < y)
  | .ge => decide (y ≤ x)
  | .gt => decide (y < x)
  | .le => decide (x ≤ y)
/-- jumps -/
def xbr (i : Instr) (pc : Nat) (st : List Value) : Option (Nat × List Value) := match i, st with
  | .goto o, st => (xtg pc o).map fun t => (t, st)
  | .ifCond c o, .int x :: st => (xtg pc o).map fun t => (bif xcmp c x 0 then t else pc + 3, st)
  | .if_icmp c o, .int y :: .int x :: st => (xtg pc o).map fun t => (bif xcmp c x y then t else pc + 3, st)
  | .tableswitch d lo hi offs, .int x :: st =>
    if x.toInt < lo ∨ hi < x.toInt then (xtg pc d).map fun t => (t, st)
    else match offs[(x.toInt - lo).toNat]? with
      | some o => (xtg pc o).map fun t => (t, st)
      | none => none
  | .lookupswitch d ps, .int x :: st =>
    bif (ps.toList.zip (ps.toList.drop 1)).all (fun (a, next) => a.1 < next.1) then (xtg pc (Op.lookupswitch.offset ps.toList d x.toInt)).map fun t => (t, st) else none
  | _, _ => none
/-- does a field of this sort take this value -/
def xfit (c : Nat) (v : Value) : Bool := match c % 10, v with
  | 0, .int _ => true
  | 1, .int x => x == 0 || x == 1
  | 2, .long _ => true
  | 3, .ref _ => true
  | 4, .ref _ => true
  | _, _ => false
/-- what touches the cells -/
def xho (ro : List (List Int32)) (own kind : Nat) (i : Instr) (st : List Value) (h : xH) : Option (List Value × xH) := match i, st with
  | .getfield idx, .ref r :: st => match xtb xF own idx, h[r]? with
    | some (ci, k, _), some (t, fs) => bif Nat.beq t ci then (fs[k]?).map fun v => (v :: st, h) else none
    | _, _ => none
  | .putfield idx, v :: .ref r :: st => match xtb xF own idx, h[r]? with
    | some (ci, k, _), some (t, fs) => bif Nat.beq t ci && Nat.blt k fs.length then
        match xT[ci]? with
        | some cs => match cs[k]? with
          | some c => bif xfit c v && (Nat.blt c 10 || (Nat.beq kind 2 && Nat.beq ci own)) then some (st, h.set r (t, fs.set k v)) else none
          | none => none
        | none => none
      else none
    | _, _ => none
  | .iaload, .int j :: .ref r :: st => match h[r]? with
    | some (t, vs) => bif Nat.beq t 100 then if j < 0 then none else match vs[j.toNatClampNeg]? with
        | some (.int x) => some (.int x :: st, h)
        | _ => none
      else none
    | none => none
  | .iaload, .int j :: .retAddr q :: st => match ro[q]? with
    | some xs => if j < 0 then none else (xs[j.toNatClampNeg]?).map fun x => (.int x :: st, h)
    | none => none
  | .baload, .int j :: .ref r :: st => match h[r]? with
    | some (t, vs) => bif Nat.beq t 101 then if j < 0 then none else match vs[j.toNatClampNeg]? with
        | some (.int x) => some (.int x :: st, h)
        | _ => none
      else none
    | none => none
  | .laload, .int j :: .ref r :: st => match h[r]? with
    | some (t, vs) => bif Nat.beq t 102 then if j < 0 then none else match vs[j.toNatClampNeg]? with
        | some (.long x) => some (.long x :: st, h)
        | _ => none
      else none
    | none => none
  | .iastore, .int x :: .int j :: .ref r :: st => match h[r]? with
    | some (t, vs) => bif Nat.beq t 100 && Nat.blt j.toNatClampNeg vs.length then if j < 0 then none else some (st, h.set r (t, vs.set j.toNatClampNeg (.int x))) else none
    | none => none
  | .bastore, .int x :: .int j :: .ref r :: st => match h[r]? with
    | some (t, vs) => bif Nat.beq t 101 && Nat.blt j.toNatClampNeg vs.length && (x == 0 || x == 1) then if j < 0 then none else some (st, h.set r (t, vs.set j.toNatClampNeg (.int x))) else none
    | none => none
  | .lastore, .long x :: .int j :: .ref r :: st => match h[r]? with
    | some (t, vs) => bif Nat.beq t 102 && Nat.blt j.toNatClampNeg vs.length then if j < 0 then none else some (st, h.set r (t, vs.set j.toNatClampNeg (.long x))) else none
    | none => none
  | .arraylength, .retAddr q :: st => bif Nat.beq q 0 then (ro[q]?).map fun xs => (.int (Int32.ofNat xs.length) :: st, h) else none
  | .arraylength, .ref r :: st => match h[r]? with
    | some (t, vs) => bif Nat.beq t 100 then some (.int (Int32.ofNat vs.length) :: st, h) else none
    | none => none
  | .getstatic idx, st => (xtb xG own idx).map fun k => (.retAddr k.1 :: st, h)
  | .new idx, st => match xtb xW own idx with
    | some (ci, _) => (xD[ci]?).map fun fs => (.ref h.length :: st, h ++ [(ci, fs)])
    | none => none
  | .newarray .int, .int n :: st => if n < 0 ∨ 100000 < n.toNatClampNeg then none else some (.ref h.length :: st, h ++ [(100, List.replicate n.toNatClampNeg (.int 0))])
  | .newarray .boolean, .int n :: st => if n < 0 ∨ 100000 < n.toNatClampNeg then none else some (.ref h.length :: st, h ++ [(101, List.replicate n.toNatClampNeg (.int 0))])
  | .newarray .long, .int n :: st => if n < 0 ∨ 100000 < n.toNatClampNeg then none else some (.ref h.length :: st, h ++ [(102, List.replicate n.toNatClampNeg (.long 0))])
  | _, _ => none
/-- ends -/
def xrt (ret : Nat) (i : Instr) (st : List Value) : Option (Option Value) := match i, st with
  | .return_, [] => bif Nat.beq ret 0 then some none else none
  | .ireturn, [.int x] => bif Nat.beq ret 1 then some (some (.int x)) else bif Nat.beq ret 2 && (x == 0 || x == 1) then some (some (.int x)) else none
  | .lreturn, [.long x] => bif Nat.beq ret 3 then some (some (.long x)) else none
  | _, _ => none
def xtk : Nat → List Value → List Value → Option (List Value × List Value)
  | 0, as, st => some (as, st)
  | n + 1, as, v :: st => xtk n (v :: as) st
  | _ + 1, _, [] => none
def xcs (l : List Value) : Nat := (l.map fun v => v.category).sum
/-- calls: the method, its arguments, the stack below -/
def xca (own : Nat) (i : Instr) (st : List Value) (h : xH) : Option (Nat × List Value × List Value) := match i with
  | .invokevirtual idx => match xtb xC own idx with
    | some (y, n, _, nest) => match xM[y]?, xtk n [] st with
      | some (o, _, kind, _), some (as, .ref r :: rest) => match h[r]? with
        | some (t, _) => bif Nat.blt y xOw && Nat.beq kind 1 && Nat.beq nest 0 && Nat.beq t o && Nat.blt t 13 then some (y, .ref r :: as, rest) else none
        | none => none
      | _, _ => none
    | none => none
  | .invokestatic idx => match xtb xC own idx with
    | some (y, n, _, nest) => match xM[y]?, xtk n [] st with
      | some (_, _, kind, _), some (as, rest) => bif Nat.blt y xOw && Nat.beq kind 0 && Nat.beq nest 0 then some (y, as, rest) else none
      | _, _ => none
    | none => none
  | .invokespecial idx => match xtb xC own idx with
    | some (y, n, _, _) => match xM[y]?, xtk n [] st with
      | some (_, _, kind, _), some (as, .ref r :: rest) => bif Nat.blt y xOw && Nat.beq kind 2 then some (y, .ref r :: as, rest) else none
      | _, _ => none
    | none => none
  | _ => none
/-- Object's own beginning: does nothing -/
def xob (own : Nat) (i : Instr) (st : List Value) : Option (List Value) := match i, st with
  | .invokespecial idx, .ref _ :: rest => match xtb xC own idx with
    | some (y, _) => bif Nat.beq y 9999 then some rest else none
    | none => none
  | _, _ => none
/-- the greater, the less of two -/
def xmm (own : Nat) (i : Instr) (st : List Value) : Option (List Value) := match i, st with
  | .invokestatic idx, .int y :: .int x :: rest => match xtb xC own idx with
    | some (m, _, _, nest) => bif Nat.beq nest 0 then (bif Nat.beq m xMx then some (.int (if x < y then y else x) :: rest) else bif Nat.beq m xMn then some (.int (if y < x then y else x) :: rest) else none) else none
    | none => none
  | _, _ => none
/-- System.arraycopy, rows of longs -/
def xcpy (vs ws : List Value) (sp dp n : Nat) : List Value := (List.range ws.length).map fun k => if dp ≤ k ∧ k < dp + n then vs.getD (sp + (k - dp)) .null else ws.getD k .null
def xay (own : Nat) (i : Instr) (st : List Value) (h : xH) : Option (List Value × xH) := match i, st with
  | .invokestatic idx, .int n :: .int dp :: .ref rd :: .int sp :: .ref rs :: rest => match xtb xY own idx, h[rs]?, h[rd]? with
    | some _, some (t0, vs), some (t1, ws) => bif Nat.beq t0 102 && Nat.beq t1 102 && Nat.ble (sp.toNatClampNeg + n.toNatClampNeg) vs.length && Nat.ble (dp.toNatClampNeg + n.toNatClampNeg) ws.length then
        if sp < 0 ∨ dp < 0 ∨ n < 0 then none else some (rest, h.set rd (102, xcpy vs ws sp.toNatClampNeg dp.toNatClampNeg n.toNatClampNeg))
      else none
    | _, _, _ => none
  | _, _ => none
def ev (ro : List (List Int32)) : Nat → Nat → xQ → Nat → xL → List Value → xH → Option (Option Value × xH)
  | 0, _, _, _, _, _, _ => none
  | n + 1, d, q, pc, ls, st, h => match xcg q.2.2.2.2 pc with
    | none => none
    | some i => match xs1 q.1 q.2.1 i ls st with
      | some (ls', st') => ev ro n d q (pc + xil i) ls' st' h
      | none => match xbr i pc st with
        | some (pc', st') => ev ro n d q pc' ls st' h
        | none => match xho ro q.1 q.2.2.1 i st h with
          | some (st', h') => ev ro n d q (pc + xil i) ls st' h'
          | none => match xrt q.2.2.2.1 i st with
            | some r => some (r, h)
            | none => match d with
              | 0 => none
              | d' + 1 => match xob q.1 i st with
                | some rest => bif Nat.ble (xcs rest) 8 then ev ro n (d' + 1) q (pc + 3) ls rest h else none
                | none => match xmm q.1 i st with
                | some rest => bif Nat.ble (xcs rest) 8 then ev ro n (d' + 1) q (pc + 3) ls rest h else none
                | none => match xay q.1 i st h with
                | some (rest, h') => bif Nat.ble (xcs rest) 8 then ev ro n (d' + 1) q (pc + 3) ls rest h' else none
                | none => match xca q.1 i st h with
                  | none => none
                  | some (y, as, rest) => match xM[y]? with
                    | none => none
                    | some q' => bif Nat.ble (xcs rest) 8 && Nat.ble (xcs as) q'.2.1 then
                        match ev ro n d' q' 0 (lv_args 0 as) [] h with
                        | none => none
                        | some (r, h') => ev ro n (d' + 1) q (pc + 3) ls (r.toList ++ rest) h'
                      else none
end
