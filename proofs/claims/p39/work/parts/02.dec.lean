/-! every method's code is its bytes: by deciding, a method a row -/
def xil : Instr → Nat
  | .bipush _ | .iload _ | .istore _ | .aload _ | .astore _ | .lload _ | .lstore _ | .ldc _ | .newarray _ => 2
  | .sipush _ | .ldc_w _ | .ldc2_w _ | .iinc _ _ | .getfield _ | .putfield _ | .getstatic _ | .invokevirtual _ | .invokespecial _ | .invokestatic _ | .new _ | .goto _ | .if_icmp _ _ | .ifCond _ _ => 3
  | _ => 1
abbrev xNt : Type := MethodName × ByteArray × Option FieldType × Nat × Nat × Nat × Nat
def xdc (b : ByteArray) (c : xK) : Bool := c.all fun ch => ch.all fun q => match decode b q.1 with
  | .ok (i, n) => decide (i = q.2) && (match i with
    | .tableswitch _ _ _ _ => true
    | .lookupswitch _ _ => true
    | _ => Nat.beq n (xil i))
  | .error _ => false
theorem xdc_split {b : ByteArray} {c : xK} (n : Nat) (h1 : xdc b (c.take n) = true) (h2 : xdc b (c.drop n) = true) : xdc b c = true := by
  unfold xdc at h1 h2 ⊢
  rw [← List.take_append_drop n c, List.all_append, h1, h2]
  rfl
def xml : List xQ → List xNt → Prop
  | [_], [_] => True
  | q :: a, y :: b => xgt y.2.2.2.1 = some (.code y.1 y.2.1 q.2.1 y.2.2.1) ∧ xml a b
  | _, _ => False
theorem xm_all : xml xM xN := sorry
def xdl : List xQ → List xNt → Prop
  | q :: a, y :: b => xdc y.2.1 q.2.2.2.2 = true ∧ xdl a b
  | [], [] => True
  | _, _ => False
theorem xd_276 : xdc code k276 = true := sorry
theorem xd_all : xdl xM xN := sorry
