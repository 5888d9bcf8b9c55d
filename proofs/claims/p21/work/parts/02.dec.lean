noncomputable section
/-! every method's code is its bytes: by deciding, a method a row -/
def xil : Instr → Nat
  | .bipush _ | .iload _ | .istore _ | .aload _ | .astore _ | .lload _ | .lstore _ | .ldc _ | .newarray _ => 2
  | .sipush _ | .ldc_w _ | .ldc2_w _ | .iinc _ _ | .getfield _ | .putfield _ | .getstatic _ | .invokevirtual _ | .invokespecial _ | .invokestatic _ | .new _ | .goto _ | .if_icmp _ _ | .ifCond _ _ => 3
  | _ => 1
abbrev xNt : Type := MethodName × ByteArray × Option FieldType × Nat × Nat × Nat × Nat
def xdc (b : ByteArray) (c : xK) : Bool := c.all fun ch => ch.all fun q => match decode b q.1 with
  | .ok (i, n) => decide (i = q.2) && (match i with
    | .tableswitch _ _ _ _ => true
    | .lookupswitch _ _ => true
    | _ => Nat.beq n (xil i))
  | .error _ => false
/-! decoding a byte behind the other: facts by opcode -/
theorem fb_bind {α β : Type} {x : Jvm.ClassFile.Decoder α} {f : α → Jvm.ClassFile.Decoder β} {b : ByteArray} {s s2 : Nat} {a : α} (h : x b s = .ok (a, s2)) : (x >>= f) b s = f a b s2 := by
  show Except.bind (x b s) _ = _
  rw [h]
  rfl
theorem fb_map {α β : Type} {x : Jvm.ClassFile.Decoder α} {f : α → β} {b : ByteArray} {s s2 : Nat} {a : α} (h : x b s = .ok (a, s2)) : (f <$> x) b s = .ok (f a, s2) := by
  show Except.bind (x b s) _ = _
  rw [h]
  rfl
abbrev fU1 : Jvm.ClassFile.Decoder Nat := Jvm.ClassFile.Reader.u1
abbrev fU2 : Jvm.ClassFile.Decoder Nat := Jvm.ClassFile.Reader.u2
theorem fb_u1 {b : ByteArray} {pc : Nat} {x : UInt8} {r : List UInt8} (h : b.data.toList.drop pc = x :: r) : fU1 b pc = .ok (x.toNat, pc + 1) := by
  have hl : pc < b.data.toList.length := by
    have := congrArg List.length h
    rw [List.length_drop, List.length_cons] at this
    omega
  have hs : pc < b.size := hl
  rw [List.drop_eq_getElem_cons hl] at h
  have hx : b[pc] = x := (List.cons.inj h).1
  rw [← hx]
  show (dite (pc < b.size) _ _ : Jvm.ClassFile.Decoder Nat) b pc = _
  rw [dif_pos hs]
  rfl
theorem fb_u2 {b : ByteArray} {pc : Nat} {x y : UInt8} {r : List UInt8} (h : b.data.toList.drop pc = x :: y :: r) : fU2 b pc = .ok (x.toNat * 256 + y.toNat, pc + 2) := by
  have h2 : b.data.toList.drop (pc + 1) = y :: r := by rw [← List.drop_drop, h]; rfl
  exact (fb_bind (fb_u1 h)).trans ((fb_bind (fb_u1 h2)).trans rfl)
theorem fb_dec {b : ByteArray} {pc n : Nat} {i : Instr} (h : Jvm.ClassFile.Decoder.instr pc b pc = .ok (i, pc + n)) : decode b pc = .ok (i, n) := by
  unfold decode
  show Except.bind (Jvm.ClassFile.Decoder.instr pc b pc) _ = _
  rw [h]
  show Except.ok (i, pc + n - pc) = _
  rw [Nat.add_sub_cancel_left]
theorem fb_dr {b : ByteArray} {pc : Nat} {x : UInt8} {r : List UInt8} (h : b.data.toList.drop pc = x :: r) : b.data.toList.drop (pc + 1) = r := by rw [← List.drop_drop, h]; rfl
abbrev fP0 (k : Nat) (i : Instr) : Prop := ∀ (b : ByteArray) (pc : Nat), fU1 b pc = .ok (k, pc + 1) → decode b pc = .ok (i, 1)
abbrev fP1 (k : Nat) (f : Nat → Instr) : Prop := ∀ (b : ByteArray) (pc a : Nat), fU1 b pc = .ok (k, pc + 1) → fU1 b (pc + 1) = .ok (a, pc + 2) → decode b pc = .ok (f a, 2)
abbrev fP2 (k : Nat) (f : Nat → Instr) : Prop := ∀ (b : ByteArray) (pc a : Nat), fU1 b pc = .ok (k, pc + 1) → fU2 b (pc + 1) = .ok (a, pc + 3) → decode b pc = .ok (f a, 3)
abbrev fP3 (k : Nat) (f : Int → Instr) : Prop := ∀ (b : ByteArray) (pc a : Nat), fU1 b pc = .ok (k, pc + 1) → fU2 b (pc + 1) = .ok (a, pc + 3) → decode b pc = .ok (f (Jvm.ClassFile.Reader.signed 16 a), 3)
theorem fq_42 : fP0 42 (.aload_n 0) := fun _ _ h => fb_dec ((fb_bind h).trans rfl)
theorem fq_27 : fP0 27 (.iload_n 1) := fun _ _ h => fb_dec ((fb_bind h).trans rfl)
theorem fq_28 : fP0 28 (.iload_n 2) := fun _ _ h => fb_dec ((fb_bind h).trans rfl)
theorem fq_29 : fP0 29 (.iload_n 3) := fun _ _ h => fb_dec ((fb_bind h).trans rfl)
theorem fq_172 : fP0 172 (.ireturn) := fun _ _ h => fb_dec ((fb_bind h).trans rfl)
theorem fq_4 : fP0 4 (.iconst (1)) := fun _ _ h => fb_dec ((fb_bind h).trans rfl)
theorem fq_3 : fP0 3 (.iconst (0)) := fun _ _ h => fb_dec ((fb_bind h).trans rfl)
theorem fq_46 : fP0 46 (.iaload) := fun _ _ h => fb_dec ((fb_bind h).trans rfl)
theorem fq_96 : fP0 96 (.iadd) := fun _ _ h => fb_dec ((fb_bind h).trans rfl)
theorem fq_5 : fP0 5 (.iconst (2)) := fun _ _ h => fb_dec ((fb_bind h).trans rfl)
theorem fq_2 : fP0 2 (.iconst (-1)) := fun _ _ h => fb_dec ((fb_bind h).trans rfl)
theorem fq_6 : fP0 6 (.iconst (3)) := fun _ _ h => fb_dec ((fb_bind h).trans rfl)
theorem fq_7 : fP0 7 (.iconst (4)) := fun _ _ h => fb_dec ((fb_bind h).trans rfl)
theorem fq_8 : fP0 8 (.iconst (5)) := fun _ _ h => fb_dec ((fb_bind h).trans rfl)
theorem fq_9 : fP0 9 (.lconst 0) := fun _ _ h => fb_dec ((fb_bind h).trans rfl)
theorem fq_10 : fP0 10 (.lconst 1) := fun _ _ h => fb_dec ((fb_bind h).trans rfl)
theorem fq_26 : fP0 26 (.iload_n 0) := fun _ _ h => fb_dec ((fb_bind h).trans rfl)
theorem fq_30 : fP0 30 (.lload_n 0) := fun _ _ h => fb_dec ((fb_bind h).trans rfl)
theorem fq_31 : fP0 31 (.lload_n 1) := fun _ _ h => fb_dec ((fb_bind h).trans rfl)
theorem fq_32 : fP0 32 (.lload_n 2) := fun _ _ h => fb_dec ((fb_bind h).trans rfl)
theorem fq_33 : fP0 33 (.lload_n 3) := fun _ _ h => fb_dec ((fb_bind h).trans rfl)
theorem fq_43 : fP0 43 (.aload_n 1) := fun _ _ h => fb_dec ((fb_bind h).trans rfl)
theorem fq_44 : fP0 44 (.aload_n 2) := fun _ _ h => fb_dec ((fb_bind h).trans rfl)
theorem fq_45 : fP0 45 (.aload_n 3) := fun _ _ h => fb_dec ((fb_bind h).trans rfl)
theorem fq_47 : fP0 47 (.laload) := fun _ _ h => fb_dec ((fb_bind h).trans rfl)
theorem fq_51 : fP0 51 (.baload) := fun _ _ h => fb_dec ((fb_bind h).trans rfl)
theorem fq_59 : fP0 59 (.istore_n 0) := fun _ _ h => fb_dec ((fb_bind h).trans rfl)
theorem fq_60 : fP0 60 (.istore_n 1) := fun _ _ h => fb_dec ((fb_bind h).trans rfl)
theorem fq_61 : fP0 61 (.istore_n 2) := fun _ _ h => fb_dec ((fb_bind h).trans rfl)
theorem fq_62 : fP0 62 (.istore_n 3) := fun _ _ h => fb_dec ((fb_bind h).trans rfl)
theorem fq_63 : fP0 63 (.lstore_n 0) := fun _ _ h => fb_dec ((fb_bind h).trans rfl)
theorem fq_64 : fP0 64 (.lstore_n 1) := fun _ _ h => fb_dec ((fb_bind h).trans rfl)
theorem fq_65 : fP0 65 (.lstore_n 2) := fun _ _ h => fb_dec ((fb_bind h).trans rfl)
theorem fq_66 : fP0 66 (.lstore_n 3) := fun _ _ h => fb_dec ((fb_bind h).trans rfl)
theorem fq_75 : fP0 75 (.astore_n 0) := fun _ _ h => fb_dec ((fb_bind h).trans rfl)
theorem fq_76 : fP0 76 (.astore_n 1) := fun _ _ h => fb_dec ((fb_bind h).trans rfl)
theorem fq_77 : fP0 77 (.astore_n 2) := fun _ _ h => fb_dec ((fb_bind h).trans rfl)
theorem fq_78 : fP0 78 (.astore_n 3) := fun _ _ h => fb_dec ((fb_bind h).trans rfl)
theorem fq_79 : fP0 79 (.iastore) := fun _ _ h => fb_dec ((fb_bind h).trans rfl)
theorem fq_80 : fP0 80 (.lastore) := fun _ _ h => fb_dec ((fb_bind h).trans rfl)
theorem fq_84 : fP0 84 (.bastore) := fun _ _ h => fb_dec ((fb_bind h).trans rfl)
theorem fq_87 : fP0 87 (.pop) := fun _ _ h => fb_dec ((fb_bind h).trans rfl)
theorem fq_88 : fP0 88 (.pop2) := fun _ _ h => fb_dec ((fb_bind h).trans rfl)
theorem fq_89 : fP0 89 (.dup) := fun _ _ h => fb_dec ((fb_bind h).trans rfl)
theorem fq_92 : fP0 92 (.dup2) := fun _ _ h => fb_dec ((fb_bind h).trans rfl)
theorem fq_97 : fP0 97 (.ladd) := fun _ _ h => fb_dec ((fb_bind h).trans rfl)
theorem fq_100 : fP0 100 (.isub) := fun _ _ h => fb_dec ((fb_bind h).trans rfl)
theorem fq_101 : fP0 101 (.lsub) := fun _ _ h => fb_dec ((fb_bind h).trans rfl)
theorem fq_104 : fP0 104 (.imul) := fun _ _ h => fb_dec ((fb_bind h).trans rfl)
theorem fq_108 : fP0 108 (.idiv) := fun _ _ h => fb_dec ((fb_bind h).trans rfl)
theorem fq_112 : fP0 112 (.irem) := fun _ _ h => fb_dec ((fb_bind h).trans rfl)
theorem fq_116 : fP0 116 (.ineg) := fun _ _ h => fb_dec ((fb_bind h).trans rfl)
theorem fq_120 : fP0 120 (.ishl) := fun _ _ h => fb_dec ((fb_bind h).trans rfl)
theorem fq_121 : fP0 121 (.lshl) := fun _ _ h => fb_dec ((fb_bind h).trans rfl)
theorem fq_122 : fP0 122 (.ishr) := fun _ _ h => fb_dec ((fb_bind h).trans rfl)
theorem fq_123 : fP0 123 (.lshr) := fun _ _ h => fb_dec ((fb_bind h).trans rfl)
theorem fq_124 : fP0 124 (.iushr) := fun _ _ h => fb_dec ((fb_bind h).trans rfl)
theorem fq_126 : fP0 126 (.iand) := fun _ _ h => fb_dec ((fb_bind h).trans rfl)
theorem fq_127 : fP0 127 (.land) := fun _ _ h => fb_dec ((fb_bind h).trans rfl)
theorem fq_128 : fP0 128 (.ior) := fun _ _ h => fb_dec ((fb_bind h).trans rfl)
theorem fq_129 : fP0 129 (.lor) := fun _ _ h => fb_dec ((fb_bind h).trans rfl)
theorem fq_130 : fP0 130 (.ixor) := fun _ _ h => fb_dec ((fb_bind h).trans rfl)
theorem fq_131 : fP0 131 (.lxor) := fun _ _ h => fb_dec ((fb_bind h).trans rfl)
theorem fq_133 : fP0 133 (.i2l) := fun _ _ h => fb_dec ((fb_bind h).trans rfl)
theorem fq_136 : fP0 136 (.l2i) := fun _ _ h => fb_dec ((fb_bind h).trans rfl)
theorem fq_145 : fP0 145 (.i2b) := fun _ _ h => fb_dec ((fb_bind h).trans rfl)
theorem fq_147 : fP0 147 (.i2s) := fun _ _ h => fb_dec ((fb_bind h).trans rfl)
theorem fq_148 : fP0 148 (.lcmp) := fun _ _ h => fb_dec ((fb_bind h).trans rfl)
theorem fq_173 : fP0 173 (.lreturn) := fun _ _ h => fb_dec ((fb_bind h).trans rfl)
theorem fq_177 : fP0 177 (.return_) := fun _ _ h => fb_dec ((fb_bind h).trans rfl)
theorem fq_190 : fP0 190 (.arraylength) := fun _ _ h => fb_dec ((fb_bind h).trans rfl)
theorem fq_21 : fP1 21 .iload := fun _ _ _ h h2 => fb_dec ((fb_bind h).trans ((fb_bind h2).trans rfl))
theorem fq_54 : fP1 54 .istore := fun _ _ _ h h2 => fb_dec ((fb_bind h).trans ((fb_bind h2).trans rfl))
theorem fq_18 : fP1 18 .ldc := fun _ _ _ h h2 => fb_dec ((fb_bind h).trans ((fb_bind h2).trans rfl))
theorem fq_22 : fP1 22 .lload := fun _ _ _ h h2 => fb_dec ((fb_bind h).trans ((fb_bind h2).trans rfl))
theorem fq_55 : fP1 55 .lstore := fun _ _ _ h h2 => fb_dec ((fb_bind h).trans ((fb_bind h2).trans rfl))
theorem fq_180 : fP2 180 .getfield := fun _ _ _ h h2 => fb_dec ((fb_bind h).trans ((fb_bind h2).trans rfl))
theorem fq_182 : fP2 182 .invokevirtual := fun _ _ _ h h2 => fb_dec ((fb_bind h).trans ((fb_bind h2).trans rfl))
theorem fq_181 : fP2 181 .putfield := fun _ _ _ h h2 => fb_dec ((fb_bind h).trans ((fb_bind h2).trans rfl))
theorem fq_184 : fP2 184 .invokestatic := fun _ _ _ h h2 => fb_dec ((fb_bind h).trans ((fb_bind h2).trans rfl))
theorem fq_183 : fP2 183 .invokespecial := fun _ _ _ h h2 => fb_dec ((fb_bind h).trans ((fb_bind h2).trans rfl))
theorem fq_187 : fP2 187 .new := fun _ _ _ h h2 => fb_dec ((fb_bind h).trans ((fb_bind h2).trans rfl))
theorem fq_178 : fP2 178 .getstatic := fun _ _ _ h h2 => fb_dec ((fb_bind h).trans ((fb_bind h2).trans rfl))
theorem fq_19 : fP2 19 .ldc_w := fun _ _ _ h h2 => fb_dec ((fb_bind h).trans ((fb_bind h2).trans rfl))
theorem fq_20 : fP2 20 .ldc2_w := fun _ _ _ h h2 => fb_dec ((fb_bind h).trans ((fb_bind h2).trans rfl))
theorem fq_167 : fP3 167 (fun o => .goto o) := fun _ _ _ h h2 => fb_dec ((fb_bind h).trans ((fb_bind (fb_map h2)).trans rfl))
theorem fq_17 : fP3 17 (fun o => .sipush o) := fun _ _ _ h h2 => fb_dec ((fb_bind h).trans ((fb_bind (fb_map h2)).trans rfl))
theorem fq_153 : fP3 153 (fun o => .ifCond .eq o) := fun _ _ _ h h2 => fb_dec ((fb_bind h).trans ((fb_bind (fb_map h2)).trans rfl))
theorem fq_154 : fP3 154 (fun o => .ifCond .ne o) := fun _ _ _ h h2 => fb_dec ((fb_bind h).trans ((fb_bind (fb_map h2)).trans rfl))
theorem fq_155 : fP3 155 (fun o => .ifCond .lt o) := fun _ _ _ h h2 => fb_dec ((fb_bind h).trans ((fb_bind (fb_map h2)).trans rfl))
theorem fq_156 : fP3 156 (fun o => .ifCond .ge o) := fun _ _ _ h h2 => fb_dec ((fb_bind h).trans ((fb_bind (fb_map h2)).trans rfl))
theorem fq_157 : fP3 157 (fun o => .ifCond .gt o) := fun _ _ _ h h2 => fb_dec ((fb_bind h).trans ((fb_bind (fb_map h2)).trans rfl))
theorem fq_158 : fP3 158 (fun o => .ifCond .le o) := fun _ _ _ h h2 => fb_dec ((fb_bind h).trans ((fb_bind (fb_map h2)).trans rfl))
theorem fq_159 : fP3 159 (fun o => .if_icmp .eq o) := fun _ _ _ h h2 => fb_dec ((fb_bind h).trans ((fb_bind (fb_map h2)).trans rfl))
theorem fq_160 : fP3 160 (fun o => .if_icmp .ne o) := fun _ _ _ h h2 => fb_dec ((fb_bind h).trans ((fb_bind (fb_map h2)).trans rfl))
theorem fq_161 : fP3 161 (fun o => .if_icmp .lt o) := fun _ _ _ h h2 => fb_dec ((fb_bind h).trans ((fb_bind (fb_map h2)).trans rfl))
theorem fq_162 : fP3 162 (fun o => .if_icmp .ge o) := fun _ _ _ h h2 => fb_dec ((fb_bind h).trans ((fb_bind (fb_map h2)).trans rfl))
theorem fq_163 : fP3 163 (fun o => .if_icmp .gt o) := fun _ _ _ h h2 => fb_dec ((fb_bind h).trans ((fb_bind (fb_map h2)).trans rfl))
theorem fq_164 : fP3 164 (fun o => .if_icmp .le o) := fun _ _ _ h h2 => fb_dec ((fb_bind h).trans ((fb_bind (fb_map h2)).trans rfl))
theorem fq_16 (b : ByteArray) (pc a : Nat) (h : fU1 b pc = .ok (16, pc + 1)) (h2 : fU1 b (pc + 1) = .ok (a, pc + 2)) : decode b pc = .ok (.bipush (Jvm.ClassFile.Reader.signed 8 a), 2) := fb_dec ((fb_bind h).trans ((fb_bind (fb_map h2)).trans rfl))
theorem fq_132 (b : ByteArray) (pc a c : Nat) (h : fU1 b pc = .ok (132, pc + 1)) (h2 : fU1 b (pc + 1) = .ok (a, pc + 2)) (h3 : fU1 b (pc + 2) = .ok (c, pc + 3)) : decode b pc = .ok (.iinc a (Jvm.ClassFile.Reader.signed 8 c), 3) := fb_dec ((fb_bind h).trans ((fb_bind h2).trans ((fb_bind (fb_map h3)).trans rfl)))
/-- the tables -/
def fA0 : List (Nat × Instr) → Prop
  | [] => True
  | q :: r => fP0 q.1 q.2 ∧ fA0 r
def fA1 : List (Nat × (Nat → Instr)) → Prop
  | [] => True
  | q :: r => fP1 q.1 q.2 ∧ fA1 r
def fA2 : List (Nat × (Nat → Instr)) → Prop
  | [] => True
  | q :: r => fP2 q.1 q.2 ∧ fA2 r
def fA3 : List (Nat × (Int → Instr)) → Prop
  | [] => True
  | q :: r => fP3 q.1 q.2 ∧ fA3 r
def fL {α : Type} (k : Nat) (l : List (Nat × α)) : Option α := List.rec (motive := fun _ => Option α) none (fun q _ ih => match Nat.beq q.1 k with
    | true => some q.2
    | false => ih) l
theorem fA0_l {k : Nat} {i : Instr} : ∀ {t : List (Nat × Instr)}, fA0 t → fL k t = some i → fP0 k i
  | [], _, h => by cases h
  | q :: r, a, h => by
    have h : (match Nat.beq q.1 k with | true => some q.2 | false => fL k r) = some i := h
    cases e : Nat.beq q.1 k with
    | true => rw [e] at h; cases h; rw [← Nat.eq_of_beq_eq_true e]; exact a.1
    | false => rw [e] at h; exact fA0_l a.2 h
theorem fA1_l {k : Nat} {i : Nat → Instr} : ∀ {t : List (Nat × (Nat → Instr))}, fA1 t → fL k t = some i → fP1 k i
  | [], _, h => by cases h
  | q :: r, a, h => by
    have h : (match Nat.beq q.1 k with | true => some q.2 | false => fL k r) = some i := h
    cases e : Nat.beq q.1 k with
    | true => rw [e] at h; cases h; rw [← Nat.eq_of_beq_eq_true e]; exact a.1
    | false => rw [e] at h; exact fA1_l a.2 h
theorem fA2_l {k : Nat} {i : Nat → Instr} : ∀ {t : List (Nat × (Nat → Instr))}, fA2 t → fL k t = some i → fP2 k i
  | [], _, h => by cases h
  | q :: r, a, h => by
    have h : (match Nat.beq q.1 k with | true => some q.2 | false => fL k r) = some i := h
    cases e : Nat.beq q.1 k with
    | true => rw [e] at h; cases h; rw [← Nat.eq_of_beq_eq_true e]; exact a.1
    | false => rw [e] at h; exact fA2_l a.2 h
theorem fA3_l {k : Nat} {i : Int → Instr} : ∀ {t : List (Nat × (Int → Instr))}, fA3 t → fL k t = some i → fP3 k i
  | [], _, h => by cases h
  | q :: r, a, h => by
    have h : (match Nat.beq q.1 k with | true => some q.2 | false => fL k r) = some i := h
    cases e : Nat.beq q.1 k with
    | true => rw [e] at h; cases h; rw [← Nat.eq_of_beq_eq_true e]; exact a.1
    | false => rw [e] at h; exact fA3_l a.2 h
def fT0 : List (Nat × Instr) := [(42, .aload_n 0), (27, .iload_n 1), (28, .iload_n 2), (29, .iload_n 3), (172, .ireturn), (4, .iconst (1)), (3, .iconst (0)), (46, .iaload), (96, .iadd), (5, .iconst (2)), (2, .iconst (-1)), (6, .iconst (3)), (7, .iconst (4)), (8, .iconst (5)), (9, .lconst 0), (10, .lconst 1), (26, .iload_n 0), (30, .lload_n 0), (31, .lload_n 1), (32, .lload_n 2), (33, .lload_n 3), (43, .aload_n 1), (44, .aload_n 2), (45, .aload_n 3), (47, .laload), (51, .baload), (59, .istore_n 0), (60, .istore_n 1), (61, .istore_n 2), (62, .istore_n 3), (63, .lstore_n 0), (64, .lstore_n 1), (65, .lstore_n 2), (66, .lstore_n 3), (75, .astore_n 0), (76, .astore_n 1), (77, .astore_n 2), (78, .astore_n 3), (79, .iastore), (80, .lastore), (84, .bastore), (87, .pop), (88, .pop2), (89, .dup), (92, .dup2), (97, .ladd), (100, .isub), (101, .lsub), (104, .imul), (108, .idiv), (112, .irem), (116, .ineg), (120, .ishl), (121, .lshl), (122, .ishr), (123, .lshr), (124, .iushr), (126, .iand), (127, .land), (128, .ior), (129, .lor), (130, .ixor), (131, .lxor), (133, .i2l), (136, .l2i), (145, .i2b), (147, .i2s), (148, .lcmp), (173, .lreturn), (177, .return_), (190, .arraylength)]
theorem fT0_ok : fA0 fT0 := ⟨fq_42, fq_27, fq_28, fq_29, fq_172, fq_4, fq_3, fq_46, fq_96, fq_5, fq_2, fq_6, fq_7, fq_8, fq_9, fq_10, fq_26, fq_30, fq_31, fq_32, fq_33, fq_43, fq_44, fq_45, fq_47, fq_51, fq_59, fq_60, fq_61, fq_62, fq_63, fq_64, fq_65, fq_66, fq_75, fq_76, fq_77, fq_78, fq_79, fq_80, fq_84, fq_87, fq_88, fq_89, fq_92, fq_97, fq_100, fq_101, fq_104, fq_108, fq_112, fq_116, fq_120, fq_121, fq_122, fq_123, fq_124, fq_126, fq_127, fq_128, fq_129, fq_130, fq_131, fq_133, fq_136, fq_145, fq_147, fq_148, fq_173, fq_177, fq_190, trivial⟩
def fT1 : List (Nat × (Nat → Instr)) := [(21, .iload), (54, .istore), (18, .ldc), (22, .lload), (55, .lstore)]
theorem fT1_ok : fA1 fT1 := ⟨fq_21, fq_54, fq_18, fq_22, fq_55, trivial⟩
def fT2 : List (Nat × (Nat → Instr)) := [(180, .getfield), (182, .invokevirtual), (181, .putfield), (184, .invokestatic), (183, .invokespecial), (187, .new), (178, .getstatic), (19, .ldc_w), (20, .ldc2_w)]
theorem fT2_ok : fA2 fT2 := ⟨fq_180, fq_182, fq_181, fq_184, fq_183, fq_187, fq_178, fq_19, fq_20, trivial⟩
def fT3 : List (Nat × (Int → Instr)) := [(167, fun o => .goto o), (17, fun o => .sipush o), (153, fun o => .ifCond .eq o), (154, fun o => .ifCond .ne o), (155, fun o => .ifCond .lt o), (156, fun o => .ifCond .ge o), (157, fun o => .ifCond .gt o), (158, fun o => .ifCond .le o), (159, fun o => .if_icmp .eq o), (160, fun o => .if_icmp .ne o), (161, fun o => .if_icmp .lt o), (162, fun o => .if_icmp .ge o), (163, fun o => .if_icmp .gt o), (164, fun o => .if_icmp .le o)]
theorem fT3_ok : fA3 fT3 := ⟨fq_167, fq_17, fq_153, fq_154, fq_155, fq_156, fq_157, fq_158, fq_159, fq_160, fq_161, fq_162, fq_163, fq_164, trivial⟩
/-- what stands at the head of these bytes -/
def fD : List UInt8 → Option (Instr × Nat)
  | [] => none
  | x :: r => match fL x.toNat fT0 with
    | some i => some (i, 1)
    | none => match r with
      | [] => none
      | y :: r => match fL x.toNat fT1 with
        | some f => some (f y.toNat, 2)
        | none => match Nat.beq x.toNat 16 with
          | true => some (.bipush (Jvm.ClassFile.Reader.signed 8 y.toNat), 2)
          | false => match r with
            | [] => none
            | z :: _ => match fL x.toNat fT2 with
              | some f => some (f (y.toNat * 256 + z.toNat), 3)
              | none => match fL x.toNat fT3 with
                | some f => some (f (Jvm.ClassFile.Reader.signed 16 (y.toNat * 256 + z.toNat)), 3)
                | none => match Nat.beq x.toNat 132 with
                  | true => some (.iinc y.toNat (Jvm.ClassFile.Reader.signed 8 z.toNat), 3)
                  | false => none
theorem fD_ok {b : ByteArray} {pc : Nat} {q : Instr × Nat} : ∀ {bs : List UInt8}, b.data.toList.drop pc = bs → fD bs = some q → decode b pc = .ok q
  | [], _, h => by cases h
  | x :: r, hb, h => by
    have hx := fb_u1 hb
    dsimp only [fD] at h
    cases h0 : fL x.toNat fT0 with
    | some i => rw [h0] at h; dsimp only at h; cases h; exact fA0_l fT0_ok h0 b pc hx
    | none =>
      rw [h0] at h
      dsimp only at h
      cases r with
      | nil => cases h
      | cons y r =>
        have hy := fb_u1 (fb_dr hb)
        dsimp only at h
        cases h1 : fL x.toNat fT1 with
        | some f => rw [h1] at h; dsimp only at h; cases h; exact fA1_l fT1_ok h1 b pc _ hx hy
        | none =>
          rw [h1] at h
          dsimp only at h
          cases h16 : Nat.beq x.toNat 16 with
          | true => rw [h16] at h; dsimp only at h; cases h; rw [Nat.eq_of_beq_eq_true h16] at hx; exact fq_16 b pc _ hx hy
          | false =>
            rw [h16] at h
            dsimp only at h
            cases r with
            | nil => cases h
            | cons z r =>
              have h3 := fb_u2 (fb_dr hb)
              have hz := fb_u1 (fb_dr (fb_dr hb))
              dsimp only at h
              cases h2 : fL x.toNat fT2 with
              | some f => rw [h2] at h; dsimp only at h; cases h; exact fA2_l fT2_ok h2 b pc _ hx h3
              | none =>
                rw [h2] at h
                dsimp only at h
                cases h4 : fL x.toNat fT3 with
                | some f => rw [h4] at h; dsimp only at h; cases h; exact fA3_l fT3_ok h4 b pc _ hx h3
                | none =>
                  rw [h4] at h
                  dsimp only at h
                  cases h132 : Nat.beq x.toNat 132 with
                  | true => rw [h132] at h; dsimp only at h; cases h; rw [Nat.eq_of_beq_eq_true h132] at hx; exact fq_132 b pc _ _ hx hy hz
                  | false => rw [h132] at h; dsimp only at h; cases h
def fw (b : ByteArray) : List (Nat × Instr) → List UInt8 → Nat → Bool
  | [], _, _ => true
  | q :: c, bs, pc => Nat.beq q.1 pc && (match fD bs with
    | some (i, n) => decide (i = q.2) && Nat.beq n (xil i) && fw b c (bs.drop n) (pc + n)
    | none => xdc b [[q]] && (match c with
      | [] => true
      | q2 :: _ => fw b c (bs.drop (q2.1 - pc)) (pc + (q2.1 - pc))))
theorem xdc_i {b : ByteArray} {q : Nat × Instr} {n : Nat} (h : decode b q.1 = .ok (q.2, n)) (hn : Nat.beq n (xil q.2) = true) : xdc b [[q]] = true := by
  unfold xdc
  rw [List.all_cons, List.all_nil, Bool.and_true, List.all_cons, List.all_nil, Bool.and_true]
  rw [h]
  dsimp only
  rw [Bool.and_eq_true]
  refine ⟨decide_eq_true rfl, ?_⟩
  split <;> first | rfl | exact hn
theorem xdc_fl {b : ByteArray} {c : xK} (h : ∀ q ∈ c.flatten, xdc b [[q]] = true) : xdc b c = true := by
  unfold xdc at h ⊢
  refine List.all_eq_true.mpr (fun ch hc => List.all_eq_true.mpr (fun q hq => ?_))
  have k := h q (List.mem_flatten.mpr ⟨ch, hc, hq⟩)
  rw [List.all_cons, List.all_nil, Bool.and_true, List.all_cons, List.all_nil, Bool.and_true] at k
  exact k
theorem fw_ok {b : ByteArray} : ∀ {c : List (Nat × Instr)} {bs : List UInt8} {pc : Nat}, b.data.toList.drop pc = bs → fw b c bs pc = true → ∀ q ∈ c, xdc b [[q]] = true
  | [], _, _, _, _, q, hq => by cases hq
  | q0 :: c, bs, pc, hb, h, q, hq => by
    unfold fw at h
    rw [Bool.and_eq_true] at h
    obtain ⟨h1, h2⟩ := h
    have e1 := Nat.eq_of_beq_eq_true h1
    cases hd : fD bs with
    | some r =>
      obtain ⟨i, n⟩ := r
      rw [hd] at h2
      dsimp only at h2
      rw [Bool.and_eq_true, Bool.and_eq_true] at h2
      obtain ⟨⟨a1, a2⟩, a3⟩ := h2
      have a1 := of_decide_eq_true a1
      rcases List.mem_cons.mp hq with e | e
      · have k := fD_ok hb hd
        rw [← e1, a1] at k
        rw [a1] at a2
        rw [e]
        exact xdc_i k a2
      · exact fw_ok (by rw [← List.drop_drop, hb]) a3 q e
    | none =>
      rw [hd] at h2
      dsimp only at h2
      rw [Bool.and_eq_true] at h2
      rcases List.mem_cons.mp hq with e | e
      · rw [e]; exact h2.1
      · cases c with
        | nil => cases e
        | cons q2 c => exact fw_ok (by rw [← List.drop_drop, hb]) h2.2 q e
theorem fw_x {b : ByteArray} {c : xK} (h : fw b c.flatten b.data.toList 0 = true) : xdc b c = true := xdc_fl (fw_ok (pc := 0) (bs := b.data.toList) rfl h)
set_option maxRecDepth 100000 in
theorem xd_0 : xdc prog_2_method_1_code k0 = true := fw_x (by decide +kernel)
set_option maxRecDepth 100000 in
theorem xd_1 : xdc prog_2_method_2_code k1 = true := fw_x (by decide +kernel)
set_option maxRecDepth 100000 in
theorem xd_2 : xdc prog_2_method_3_code k2 = true := fw_x (by decide +kernel)
set_option maxRecDepth 100000 in
theorem xd_3 : xdc prog_2_method_4_code k3 = true := fw_x (by decide +kernel)
set_option maxRecDepth 100000 in
theorem xd_4 : xdc prog_2_method_5_code k4 = true := fw_x (by decide +kernel)
set_option maxRecDepth 100000 in
theorem xd_5 : xdc prog_3_method_1_code k5 = true := fw_x (by decide +kernel)
set_option maxRecDepth 100000 in
theorem xd_6 : xdc prog_3_method_2_code k6 = true := fw_x (by decide +kernel)
set_option maxRecDepth 100000 in
theorem xd_7 : xdc prog_3_method_3_code k7 = true := fw_x (by decide +kernel)
set_option maxRecDepth 100000 in
theorem xd_8 : xdc prog_3_method_4_code k8 = true := fw_x (by decide +kernel)
set_option maxRecDepth 100000 in
theorem xd_9 : xdc prog_3_method_5_code k9 = true := fw_x (by decide +kernel)
set_option maxRecDepth 100000 in
theorem xd_10 : xdc prog_3_method_6_code k10 = true := fw_x (by decide +kernel)
set_option maxRecDepth 100000 in
theorem xd_11 : xdc prog_3_method_7_code k11 = true := fw_x (by decide +kernel)
set_option maxRecDepth 100000 in
theorem xd_12 : xdc prog_3_method_8_code k12 = true := fw_x (by decide +kernel)
set_option maxRecDepth 100000 in
theorem xd_13 : xdc prog_3_method_9_code k13 = true := fw_x (by decide +kernel)
set_option maxRecDepth 100000 in
theorem xd_14 : xdc prog_3_method_10_code k14 = true := fw_x (by decide +kernel)
set_option maxRecDepth 100000 in
theorem xd_15 : xdc prog_3_method_11_code k15 = true := fw_x (by decide +kernel)
set_option maxRecDepth 100000 in
theorem xd_16 : xdc prog_3_method_12_code k16 = true := fw_x (by decide +kernel)
set_option maxRecDepth 100000 in
theorem xd_17 : xdc prog_3_method_13_code k17 = true := fw_x (by decide +kernel)
set_option maxRecDepth 100000 in
theorem xd_18 : xdc prog_3_method_14_code k18 = true := fw_x (by decide +kernel)
set_option maxRecDepth 100000 in
theorem xd_19 : xdc prog_3_method_15_code k19 = true := fw_x (by decide +kernel)
set_option maxRecDepth 100000 in
theorem xd_20 : xdc prog_3_method_16_code k20 = true := fw_x (by decide +kernel)
set_option maxRecDepth 100000 in
theorem xd_21 : xdc prog_3_method_17_code k21 = true := fw_x (by decide +kernel)
set_option maxRecDepth 100000 in
theorem xd_22 : xdc prog_3_method_18_code k22 = true := fw_x (by decide +kernel)
set_option maxRecDepth 100000 in
theorem xd_23 : xdc prog_4_method_1_code k23 = true := fw_x (by decide +kernel)
set_option maxRecDepth 100000 in
theorem xd_24 : xdc prog_4_method_2_code k24 = true := fw_x (by decide +kernel)
set_option maxRecDepth 100000 in
theorem xd_25 : xdc prog_4_method_3_code k25 = true := fw_x (by decide +kernel)
set_option maxRecDepth 100000 in
theorem xd_26 : xdc prog_4_method_4_code k26 = true := fw_x (by decide +kernel)
set_option maxRecDepth 100000 in
theorem xd_27 : xdc prog_4_method_5_code k27 = true := fw_x (by decide +kernel)
set_option maxRecDepth 100000 in
theorem xd_28 : xdc prog_4_method_6_code k28 = true := fw_x (by decide +kernel)
set_option maxRecDepth 100000 in
theorem xd_29 : xdc prog_4_method_7_code k29 = true := fw_x (by decide +kernel)
set_option maxRecDepth 100000 in
theorem xd_30 : xdc prog_4_method_8_code k30 = true := fw_x (by decide +kernel)
set_option maxRecDepth 100000 in
theorem xd_31 : xdc prog_4_method_9_code k31 = true := fw_x (by decide +kernel)
set_option maxRecDepth 100000 in
theorem xd_32 : xdc prog_4_method_10_code k32 = true := fw_x (by decide +kernel)
set_option maxRecDepth 100000 in
theorem xd_33 : xdc prog_4_method_11_code k33 = true := fw_x (by decide +kernel)
set_option maxRecDepth 100000 in
theorem xd_34 : xdc prog_4_method_12_code k34 = true := fw_x (by decide +kernel)
set_option maxRecDepth 100000 in
theorem xd_35 : xdc prog_4_method_13_code k35 = true := fw_x (by decide +kernel)
set_option maxRecDepth 100000 in
theorem xd_36 : xdc prog_4_method_14_code k36 = true := fw_x (by decide +kernel)
set_option maxRecDepth 100000 in
theorem xd_37 : xdc prog_4_method_15_code k37 = true := fw_x (by decide +kernel)
set_option maxRecDepth 100000 in
theorem xd_38 : xdc prog_4_method_16_code k38 = true := fw_x (by decide +kernel)
set_option maxRecDepth 100000 in
theorem xd_39 : xdc prog_5_method_1_code k39 = true := fw_x (by decide +kernel)
set_option maxRecDepth 100000 in
theorem xd_40 : xdc prog_5_method_2_code k40 = true := fw_x (by decide +kernel)
set_option maxRecDepth 100000 in
theorem xd_41 : xdc prog_5_method_3_code k41 = true := fw_x (by decide +kernel)
set_option maxRecDepth 100000 in
theorem xd_42 : xdc prog_5_method_4_code k42 = true := fw_x (by decide +kernel)
set_option maxRecDepth 100000 in
theorem xd_43 : xdc prog_5_method_5_code k43 = true := fw_x (by decide +kernel)
set_option maxRecDepth 100000 in
theorem xd_44 : xdc prog_5_method_6_code k44 = true := fw_x (by decide +kernel)
set_option maxRecDepth 100000 in
theorem xd_45 : xdc prog_5_method_7_code k45 = true := fw_x (by decide +kernel)
set_option maxRecDepth 100000 in
theorem xd_46 : xdc prog_5_method_8_code k46 = true := fw_x (by decide +kernel)
set_option maxRecDepth 100000 in
theorem xd_47 : xdc prog_5_method_9_code k47 = true := fw_x (by decide +kernel)
set_option maxRecDepth 100000 in
theorem xd_48 : xdc prog_6_method_1_code k48 = true := fw_x (by decide +kernel)
set_option maxRecDepth 100000 in
theorem xd_49 : xdc prog_6_method_2_code k49 = true := fw_x (by decide +kernel)
set_option maxRecDepth 100000 in
theorem xd_50 : xdc prog_6_method_3_code k50 = true := fw_x (by decide +kernel)
set_option maxRecDepth 100000 in
theorem xd_51 : xdc prog_6_method_4_code k51 = true := fw_x (by decide +kernel)
set_option maxRecDepth 100000 in
theorem xd_52 : xdc prog_6_method_5_code k52 = true := fw_x (by decide +kernel)
set_option maxRecDepth 100000 in
theorem xd_53 : xdc prog_6_method_6_code k53 = true := fw_x (by decide +kernel)
set_option maxRecDepth 100000 in
theorem xd_54 : xdc prog_6_method_7_code k54 = true := fw_x (by decide +kernel)
set_option maxRecDepth 100000 in
theorem xd_55 : xdc prog_6_method_8_code k55 = true := fw_x (by decide +kernel)
set_option maxRecDepth 100000 in
theorem xd_56 : xdc prog_6_method_9_code k56 = true := fw_x (by decide +kernel)
set_option maxRecDepth 100000 in
theorem xd_57 : xdc prog_7_method_1_code k57 = true := fw_x (by decide +kernel)
set_option maxRecDepth 100000 in
theorem xd_58 : xdc prog_7_method_2_code k58 = true := fw_x (by decide +kernel)
set_option maxRecDepth 100000 in
theorem xd_59 : xdc prog_7_method_3_code k59 = true := fw_x (by decide +kernel)
set_option maxRecDepth 100000 in
theorem xd_60 : xdc prog_7_method_4_code k60 = true := fw_x (by decide +kernel)
set_option maxRecDepth 100000 in
theorem xd_61 : xdc prog_7_method_5_code k61 = true := fw_x (by decide +kernel)
set_option maxRecDepth 100000 in
theorem xd_62 : xdc prog_7_method_6_code k62 = true := fw_x (by decide +kernel)
set_option maxRecDepth 100000 in
theorem xd_63 : xdc prog_7_method_7_code k63 = true := fw_x (by decide +kernel)
set_option maxRecDepth 100000 in
theorem xd_64 : xdc prog_7_method_8_code k64 = true := fw_x (by decide +kernel)
set_option maxRecDepth 100000 in
theorem xd_65 : xdc prog_8_method_1_code k65 = true := fw_x (by decide +kernel)
set_option maxRecDepth 100000 in
theorem xd_66 : xdc prog_8_method_2_code k66 = true := fw_x (by decide +kernel)
set_option maxRecDepth 100000 in
theorem xd_67 : xdc prog_8_method_3_code k67 = true := fw_x (by decide +kernel)
set_option maxRecDepth 100000 in
theorem xd_68 : xdc prog_8_method_4_code k68 = true := fw_x (by decide +kernel)
set_option maxRecDepth 100000 in
theorem xd_69 : xdc prog_8_method_5_code k69 = true := fw_x (by decide +kernel)
set_option maxRecDepth 100000 in
theorem xd_70 : xdc prog_8_method_6_code k70 = true := fw_x (by decide +kernel)
set_option maxRecDepth 100000 in
theorem xd_71 : xdc prog_8_method_7_code k71 = true := fw_x (by decide +kernel)
set_option maxRecDepth 100000 in
theorem xd_72 : xdc prog_8_method_8_code k72 = true := fw_x (by decide +kernel)
set_option maxRecDepth 100000 in
theorem xd_73 : xdc prog_8_method_9_code k73 = true := fw_x (by decide +kernel)
set_option maxRecDepth 100000 in
theorem xd_74 : xdc prog_8_method_10_code k74 = true := fw_x (by decide +kernel)
set_option maxRecDepth 100000 in
theorem xd_75 : xdc prog_8_method_11_code k75 = true := fw_x (by decide +kernel)
set_option maxRecDepth 100000 in
theorem xd_76 : xdc prog_8_method_12_code k76 = true := fw_x (by decide +kernel)
set_option maxRecDepth 100000 in
theorem xd_77 : xdc prog_8_method_13_code k77 = true := fw_x (by decide +kernel)
set_option maxRecDepth 100000 in
theorem xd_78 : xdc prog_8_method_14_code k78 = true := fw_x (by decide +kernel)
set_option maxRecDepth 100000 in
theorem xd_79 : xdc prog_8_method_15_code k79 = true := fw_x (by decide +kernel)
set_option maxRecDepth 100000 in
theorem xd_80 : xdc prog_9_method_1_code k80 = true := fw_x (by decide +kernel)
set_option maxRecDepth 100000 in
theorem xd_81 : xdc prog_9_method_2_code k81 = true := fw_x (by decide +kernel)
set_option maxRecDepth 100000 in
theorem xd_82 : xdc prog_9_method_3_code k82 = true := fw_x (by decide +kernel)
set_option maxRecDepth 100000 in
theorem xd_83 : xdc prog_9_method_4_code k83 = true := fw_x (by decide +kernel)
set_option maxRecDepth 100000 in
theorem xd_84 : xdc prog_9_method_5_code k84 = true := fw_x (by decide +kernel)
set_option maxRecDepth 100000 in
theorem xd_85 : xdc prog_9_method_6_code k85 = true := fw_x (by decide +kernel)
set_option maxRecDepth 100000 in
theorem xd_86 : xdc prog_9_method_7_code k86 = true := fw_x (by decide +kernel)
set_option maxRecDepth 100000 in
theorem xd_87 : xdc prog_9_method_8_code k87 = true := fw_x (by decide +kernel)
set_option maxRecDepth 100000 in
theorem xd_88 : xdc prog_9_method_9_code k88 = true := fw_x (by decide +kernel)
set_option maxRecDepth 100000 in
theorem xd_89 : xdc prog_9_method_10_code k89 = true := fw_x (by decide +kernel)
set_option maxRecDepth 100000 in
theorem xd_90 : xdc prog_9_method_11_code k90 = true := fw_x (by decide +kernel)
set_option maxRecDepth 100000 in
theorem xd_91 : xdc prog_10_method_1_code k91 = true := fw_x (by decide +kernel)
set_option maxRecDepth 100000 in
theorem xd_92 : xdc prog_10_method_2_code k92 = true := fw_x (by decide +kernel)
set_option maxRecDepth 100000 in
theorem xd_93 : xdc prog_10_method_3_code k93 = true := fw_x (by decide +kernel)
set_option maxRecDepth 100000 in
theorem xd_94 : xdc prog_10_method_4_code k94 = true := fw_x (by decide +kernel)
set_option maxRecDepth 100000 in
theorem xd_95 : xdc prog_10_method_5_code k95 = true := fw_x (by decide +kernel)
set_option maxRecDepth 100000 in
theorem xd_96 : xdc prog_10_method_6_code k96 = true := fw_x (by decide +kernel)
set_option maxRecDepth 100000 in
theorem xd_97 : xdc prog_10_method_7_code k97 = true := fw_x (by decide +kernel)
set_option maxRecDepth 100000 in
theorem xd_98 : xdc prog_10_method_8_code k98 = true := fw_x (by decide +kernel)
set_option maxRecDepth 100000 in
theorem xd_99 : xdc prog_10_method_9_code k99 = true := fw_x (by decide +kernel)
set_option maxRecDepth 100000 in
theorem xd_100 : xdc prog_10_method_10_code k100 = true := fw_x (by decide +kernel)
set_option maxRecDepth 100000 in
theorem xd_101 : xdc prog_10_method_11_code k101 = true := fw_x (by decide +kernel)
set_option maxRecDepth 100000 in
theorem xd_102 : xdc prog_10_method_12_code k102 = true := fw_x (by decide +kernel)
set_option maxRecDepth 100000 in
theorem xd_103 : xdc prog_10_method_13_code k103 = true := fw_x (by decide +kernel)
set_option maxRecDepth 100000 in
theorem xd_104 : xdc prog_10_method_14_code k104 = true := fw_x (by decide +kernel)
set_option maxRecDepth 100000 in
theorem xd_105 : xdc prog_10_method_15_code k105 = true := fw_x (by decide +kernel)
set_option maxRecDepth 100000 in
theorem xd_106 : xdc prog_10_method_16_code k106 = true := fw_x (by decide +kernel)
set_option maxRecDepth 100000 in
theorem xd_107 : xdc prog_11_method_1_code k107 = true := fw_x (by decide +kernel)
set_option maxRecDepth 100000 in
theorem xd_108 : xdc prog_11_method_2_code k108 = true := fw_x (by decide +kernel)
set_option maxRecDepth 100000 in
theorem xd_109 : xdc prog_11_method_3_code k109 = true := fw_x (by decide +kernel)
set_option maxRecDepth 100000 in
theorem xd_110 : xdc prog_11_method_4_code k110 = true := fw_x (by decide +kernel)
set_option maxRecDepth 100000 in
theorem xd_111 : xdc prog_11_method_5_code k111 = true := fw_x (by decide +kernel)
set_option maxRecDepth 100000 in
theorem xd_112 : xdc prog_11_method_6_code k112 = true := fw_x (by decide +kernel)
set_option maxRecDepth 100000 in
theorem xd_113 : xdc prog_11_method_7_code k113 = true := fw_x (by decide +kernel)
set_option maxRecDepth 100000 in
theorem xd_114 : xdc prog_11_method_8_code k114 = true := fw_x (by decide +kernel)
set_option maxRecDepth 100000 in
theorem xd_115 : xdc prog_11_method_9_code k115 = true := fw_x (by decide +kernel)
set_option maxRecDepth 100000 in
theorem xd_116 : xdc prog_11_method_10_code k116 = true := fw_x (by decide +kernel)
set_option maxRecDepth 100000 in
theorem xd_117 : xdc prog_12_method_1_code k117 = true := fw_x (by decide +kernel)
set_option maxRecDepth 100000 in
theorem xd_118 : xdc prog_12_method_2_code k118 = true := fw_x (by decide +kernel)
set_option maxRecDepth 100000 in
theorem xd_119 : xdc prog_12_method_3_code k119 = true := fw_x (by decide +kernel)
set_option maxRecDepth 100000 in
theorem xd_120 : xdc prog_12_method_4_code k120 = true := fw_x (by decide +kernel)
set_option maxRecDepth 100000 in
theorem xd_121 : xdc prog_12_method_5_code k121 = true := fw_x (by decide +kernel)
set_option maxRecDepth 100000 in
theorem xd_122 : xdc prog_12_method_6_code k122 = true := fw_x (by decide +kernel)
set_option maxRecDepth 100000 in
theorem xd_123 : xdc prog_12_method_7_code k123 = true := fw_x (by decide +kernel)
set_option maxRecDepth 100000 in
theorem xd_124 : xdc prog_1_method_1_code k124 = true := fw_x (by decide +kernel)
set_option maxRecDepth 100000 in
theorem xd_125 : xdc prog_1_method_2_code k125 = true := fw_x (by decide +kernel)
set_option maxRecDepth 100000 in
theorem xd_126 : xdc prog_1_method_3_code k126 = true := fw_x (by decide +kernel)
set_option maxRecDepth 100000 in
theorem xd_127 : xdc prog_1_method_4_code k127 = true := fw_x (by decide +kernel)
set_option maxRecDepth 100000 in
theorem xd_128 : xdc prog_1_method_5_code k128 = true := fw_x (by decide +kernel)
set_option maxRecDepth 100000 in
theorem xd_129 : xdc prog_1_method_6_code k129 = true := fw_x (by decide +kernel)
set_option maxRecDepth 100000 in
theorem xd_130 : xdc prog_1_method_7_code k130 = true := fw_x (by decide +kernel)
set_option maxRecDepth 100000 in
theorem xd_131 : xdc prog_1_method_8_code k131 = true := fw_x (by decide +kernel)
set_option maxRecDepth 100000 in
theorem xd_132 : xdc prog_1_method_9_code k132 = true := fw_x (by decide +kernel)
set_option maxRecDepth 100000 in
theorem xd_133 : xdc prog_1_method_10_code k133 = true := fw_x (by decide +kernel)
set_option maxRecDepth 100000 in
theorem xd_134 : xdc prog_1_method_11_code k134 = true := fw_x (by decide +kernel)
set_option maxRecDepth 100000 in
theorem xd_135 : xdc prog_1_method_12_code k135 = true := fw_x (by decide +kernel)
set_option maxRecDepth 100000 in
theorem xd_136 : xdc prog_1_method_13_code k136 = true := fw_x (by decide +kernel)
set_option maxRecDepth 100000 in
theorem xd_137 : xdc prog_1_method_14_code k137 = true := fw_x (by decide +kernel)
set_option maxRecDepth 100000 in
theorem xd_138 : xdc prog_1_method_15_code k138 = true := fw_x (by decide +kernel)
set_option maxRecDepth 100000 in
theorem xd_139 : xdc prog_1_method_16_code k139 = true := fw_x (by decide +kernel)
set_option maxRecDepth 100000 in
theorem xd_140 : xdc prog_1_method_17_code k140 = true := fw_x (by decide +kernel)
set_option maxRecDepth 100000 in
theorem xd_141 : xdc prog_1_method_18_code k141 = true := fw_x (by decide +kernel)
set_option maxRecDepth 100000 in
theorem xd_142 : xdc prog_1_method_19_code k142 = true := fw_x (by decide +kernel)
set_option maxRecDepth 100000 in
theorem xd_143 : xdc prog_1_method_20_code k143 = true := fw_x (by decide +kernel)
set_option maxRecDepth 100000 in
theorem xd_144 : xdc prog_1_method_21_code k144 = true := fw_x (by decide +kernel)
set_option maxRecDepth 100000 in
theorem xd_145 : xdc prog_1_method_22_code k145 = true := fw_x (by decide +kernel)
set_option maxRecDepth 100000 in
theorem xd_146 : xdc prog_1_method_23_code k146 = true := fw_x (by decide +kernel)
set_option maxRecDepth 100000 in
theorem xd_147 : xdc prog_1_method_24_code k147 = true := fw_x (by decide +kernel)
set_option maxRecDepth 100000 in
theorem xd_148 : xdc prog_1_method_25_code k148 = true := fw_x (by decide +kernel)
set_option maxRecDepth 100000 in
theorem xd_149 : xdc prog_1_method_26_code k149 = true := fw_x (by decide +kernel)
set_option maxRecDepth 100000 in
theorem xd_150 : xdc prog_1_method_27_code k150 = true := fw_x (by decide +kernel)
set_option maxRecDepth 100000 in
theorem xd_151 : xdc prog_1_method_28_code k151 = true := fw_x (by decide +kernel)
set_option maxRecDepth 100000 in
theorem xd_152 : xdc prog_1_method_29_code k152 = true := fw_x (by decide +kernel)
set_option maxRecDepth 100000 in
theorem xd_153 : xdc prog_1_method_30_code k153 = true := fw_x (by decide +kernel)
set_option maxRecDepth 100000 in
theorem xd_154 : xdc prog_1_method_31_code k154 = true := fw_x (by decide +kernel)
set_option maxRecDepth 100000 in
theorem xd_155 : xdc prog_1_method_32_code k155 = true := fw_x (by decide +kernel)
set_option maxRecDepth 100000 in
theorem xd_156 : xdc prog_1_method_33_code k156 = true := fw_x (by decide +kernel)
set_option maxRecDepth 100000 in
theorem xd_157 : xdc prog_1_method_34_code k157 = true := fw_x (by decide +kernel)
set_option maxRecDepth 100000 in
theorem xd_158 : xdc prog_1_method_35_code k158 = true := fw_x (by decide +kernel)
set_option maxRecDepth 100000 in
theorem xd_159 : xdc prog_1_method_36_code k159 = true := fw_x (by decide +kernel)
set_option maxRecDepth 100000 in
theorem xd_160 : xdc prog_1_method_37_code k160 = true := fw_x (by decide +kernel)
set_option maxRecDepth 100000 in
theorem xd_161 : xdc prog_1_method_38_code k161 = true := fw_x (by decide +kernel)
set_option maxRecDepth 100000 in
theorem xd_162 : xdc prog_1_method_39_code k162 = true := fw_x (by decide +kernel)
set_option maxRecDepth 100000 in
theorem xd_163 : xdc prog_1_method_40_code k163 = true := fw_x (by decide +kernel)
set_option maxRecDepth 100000 in
theorem xd_164 : xdc prog_1_method_41_code k164 = true := fw_x (by decide +kernel)
set_option maxRecDepth 100000 in
theorem xd_165 : xdc prog_1_method_42_code k165 = true := fw_x (by decide +kernel)
set_option maxRecDepth 100000 in
theorem xd_166 : xdc prog_1_method_43_code k166 = true := fw_x (by decide +kernel)
set_option maxRecDepth 100000 in
theorem xd_167 : xdc prog_1_method_44_code k167 = true := fw_x (by decide +kernel)
set_option maxRecDepth 100000 in
theorem xd_168 : xdc prog_1_method_45_code k168 = true := fw_x (by decide +kernel)
set_option maxRecDepth 100000 in
theorem xd_169 : xdc prog_1_method_46_code k169 = true := fw_x (by decide +kernel)
set_option maxRecDepth 100000 in
theorem xd_170 : xdc prog_1_method_47_code k170 = true := fw_x (by decide +kernel)
set_option maxRecDepth 100000 in
theorem xd_171 : xdc prog_1_method_48_code k171 = true := fw_x (by decide +kernel)
set_option maxRecDepth 100000 in
theorem xd_172 : xdc prog_1_method_49_code k172 = true := fw_x (by decide +kernel)
set_option maxRecDepth 100000 in
theorem xd_173 : xdc prog_1_method_50_code k173 = true := fw_x (by decide +kernel)
set_option maxRecDepth 100000 in
theorem xd_174 : xdc prog_14_method_1_code k174 = true := fw_x (by decide +kernel)
set_option maxRecDepth 100000 in
theorem xd_175 : xdc prog_14_method_2_code k175 = true := fw_x (by decide +kernel)
set_option maxRecDepth 100000 in
theorem xd_176 : xdc prog_14_method_3_code k176 = true := fw_x (by decide +kernel)
set_option maxRecDepth 100000 in
theorem xd_177 : xdc prog_14_method_4_code k177 = true := fw_x (by decide +kernel)
set_option maxRecDepth 100000 in
theorem xd_178 : xdc prog_14_method_5_code k178 = true := fw_x (by decide +kernel)
set_option maxRecDepth 100000 in
theorem xd_179 : xdc prog_14_method_6_code k179 = true := fw_x (by decide +kernel)
set_option maxRecDepth 100000 in
theorem xd_180 : xdc prog_14_method_7_code k180 = true := fw_x (by decide +kernel)
set_option maxRecDepth 100000 in
theorem xd_181 : xdc prog_14_method_8_code k181 = true := fw_x (by decide +kernel)
set_option maxRecDepth 100000 in
theorem xd_182 : xdc prog_14_method_9_code k182 = true := fw_x (by decide +kernel)
set_option maxRecDepth 100000 in
theorem xd_183 : xdc prog_14_method_10_code k183 = true := fw_x (by decide +kernel)
set_option maxRecDepth 100000 in
theorem xd_184 : xdc prog_14_method_11_code k184 = true := fw_x (by decide +kernel)
set_option maxRecDepth 100000 in
theorem xd_185 : xdc prog_14_method_12_code k185 = true := fw_x (by decide +kernel)
set_option maxRecDepth 100000 in
theorem xd_186 : xdc prog_14_method_13_code k186 = true := fw_x (by decide +kernel)
set_option maxRecDepth 100000 in
theorem xd_187 : xdc prog_14_method_14_code k187 = true := fw_x (by decide +kernel)
set_option maxRecDepth 100000 in
theorem xd_188 : xdc prog_14_method_15_code k188 = true := fw_x (by decide +kernel)
set_option maxRecDepth 100000 in
theorem xd_189 : xdc prog_14_method_16_code k189 = true := fw_x (by decide +kernel)
set_option maxRecDepth 100000 in
theorem xd_190 : xdc prog_14_method_17_code k190 = true := fw_x (by decide +kernel)
set_option maxRecDepth 100000 in
theorem xd_191 : xdc prog_14_method_18_code k191 = true := fw_x (by decide +kernel)
set_option maxRecDepth 100000 in
theorem xd_192 : xdc prog_14_method_19_code k192 = true := fw_x (by decide +kernel)
set_option maxRecDepth 100000 in
theorem xd_193 : xdc prog_14_method_20_code k193 = true := fw_x (by decide +kernel)
set_option maxRecDepth 100000 in
theorem xd_194 : xdc prog_14_method_21_code k194 = true := fw_x (by decide +kernel)
set_option maxRecDepth 100000 in
theorem xd_195 : xdc prog_14_method_22_code k195 = true := fw_x (by decide +kernel)
set_option maxRecDepth 100000 in
theorem xd_196 : xdc prog_14_method_23_code k196 = true := fw_x (by decide +kernel)
set_option maxRecDepth 100000 in
theorem xd_197 : xdc prog_14_method_24_code k197 = true := fw_x (by decide +kernel)
set_option maxRecDepth 100000 in
theorem xd_198 : xdc prog_14_method_25_code k198 = true := fw_x (by decide +kernel)
set_option maxRecDepth 100000 in
theorem xd_199 : xdc prog_14_method_26_code k199 = true := fw_x (by decide +kernel)
set_option maxRecDepth 100000 in
theorem xd_200 : xdc prog_14_method_27_code k200 = true := fw_x (by decide +kernel)
set_option maxRecDepth 100000 in
theorem xd_201 : xdc prog_14_method_28_code k201 = true := fw_x (by decide +kernel)
set_option maxRecDepth 100000 in
theorem xd_202 : xdc prog_14_method_29_code k202 = true := fw_x (by decide +kernel)
set_option maxRecDepth 100000 in
theorem xd_203 : xdc prog_14_method_30_code k203 = true := fw_x (by decide +kernel)
set_option maxRecDepth 100000 in
theorem xd_204 : xdc prog_14_method_31_code k204 = true := fw_x (by decide +kernel)
set_option maxRecDepth 100000 in
theorem xd_205 : xdc prog_14_method_32_code k205 = true := fw_x (by decide +kernel)
set_option maxRecDepth 100000 in
theorem xd_206 : xdc prog_14_method_33_code k206 = true := fw_x (by decide +kernel)
set_option maxRecDepth 100000 in
theorem xd_207 : xdc prog_14_method_34_code k207 = true := fw_x (by decide +kernel)
set_option maxRecDepth 100000 in
theorem xd_208 : xdc prog_14_method_35_code k208 = true := fw_x (by decide +kernel)
set_option maxRecDepth 100000 in
theorem xd_209 : xdc prog_14_method_36_code k209 = true := fw_x (by decide +kernel)
set_option maxRecDepth 100000 in
theorem xd_210 : xdc prog_14_method_37_code k210 = true := fw_x (by decide +kernel)
set_option maxRecDepth 100000 in
theorem xd_211 : xdc prog_14_method_38_code k211 = true := fw_x (by decide +kernel)
set_option maxRecDepth 100000 in
theorem xd_212 : xdc prog_14_method_39_code k212 = true := fw_x (by decide +kernel)
set_option maxRecDepth 100000 in
theorem xd_213 : xdc prog_14_method_40_code k213 = true := fw_x (by decide +kernel)
set_option maxRecDepth 100000 in
theorem xd_214 : xdc prog_14_method_41_code k214 = true := fw_x (by decide +kernel)
set_option maxRecDepth 100000 in
theorem xd_215 : xdc prog_14_method_42_code k215 = true := fw_x (by decide +kernel)
set_option maxRecDepth 100000 in
theorem xd_216 : xdc prog_14_method_43_code k216 = true := fw_x (by decide +kernel)
set_option maxRecDepth 100000 in
theorem xd_217 : xdc prog_14_method_44_code k217 = true := fw_x (by decide +kernel)
set_option maxRecDepth 100000 in
theorem xd_218 : xdc prog_14_method_45_code k218 = true := fw_x (by decide +kernel)
set_option maxRecDepth 100000 in
theorem xd_219 : xdc prog_14_method_46_code k219 = true := fw_x (by decide +kernel)
set_option maxRecDepth 100000 in
theorem xd_220 : xdc prog_14_method_47_code k220 = true := fw_x (by decide +kernel)
set_option maxRecDepth 100000 in
theorem xd_221 : xdc prog_14_method_48_code k221 = true := fw_x (by decide +kernel)
set_option maxRecDepth 100000 in
theorem xd_222 : xdc prog_14_method_49_code k222 = true := fw_x (by decide +kernel)
set_option maxRecDepth 100000 in
theorem xd_223 : xdc prog_14_method_50_code k223 = true := fw_x (by decide +kernel)
set_option maxRecDepth 100000 in
theorem xd_224 : xdc prog_14_method_51_code k224 = true := fw_x (by decide +kernel)
set_option maxRecDepth 100000 in
theorem xd_225 : xdc prog_14_method_52_code k225 = true := fw_x (by decide +kernel)
set_option maxRecDepth 100000 in
theorem xd_226 : xdc prog_14_method_53_code k226 = true := fw_x (by decide +kernel)
set_option maxRecDepth 100000 in
theorem xd_227 : xdc prog_14_method_54_code k227 = true := fw_x (by decide +kernel)
set_option maxRecDepth 100000 in
theorem xd_228 : xdc prog_14_method_55_code k228 = true := fw_x (by decide +kernel)
set_option maxRecDepth 100000 in
theorem xd_229 : xdc prog_14_method_56_code k229 = true := fw_x (by decide +kernel)
set_option maxRecDepth 100000 in
theorem xd_230 : xdc prog_14_method_57_code k230 = true := fw_x (by decide +kernel)
set_option maxRecDepth 100000 in
theorem xd_231 : xdc prog_14_method_58_code k231 = true := fw_x (by decide +kernel)
set_option maxRecDepth 100000 in
theorem xd_232 : xdc prog_14_method_59_code k232 = true := fw_x (by decide +kernel)
set_option maxRecDepth 100000 in
theorem xd_233 : xdc prog_14_method_60_code k233 = true := fw_x (by decide +kernel)
set_option maxRecDepth 100000 in
theorem xd_234 : xdc prog_14_method_61_code k234 = true := fw_x (by decide +kernel)
set_option maxRecDepth 100000 in
theorem xd_235 : xdc prog_14_method_62_code k235 = true := fw_x (by decide +kernel)
set_option maxRecDepth 100000 in
theorem xd_236 : xdc prog_14_method_63_code k236 = true := fw_x (by decide +kernel)
set_option maxRecDepth 100000 in
theorem xd_237 : xdc prog_14_method_64_code k237 = true := fw_x (by decide +kernel)
set_option maxRecDepth 100000 in
theorem xd_238 : xdc prog_14_method_65_code k238 = true := fw_x (by decide +kernel)
set_option maxRecDepth 100000 in
theorem xd_239 : xdc prog_14_method_66_code k239 = true := fw_x (by decide +kernel)
set_option maxRecDepth 100000 in
theorem xd_240 : xdc prog_14_method_67_code k240 = true := fw_x (by decide +kernel)
set_option maxRecDepth 100000 in
theorem xd_241 : xdc prog_14_method_68_code k241 = true := fw_x (by decide +kernel)
set_option maxRecDepth 100000 in
theorem xd_242 : xdc prog_14_method_69_code k242 = true := fw_x (by decide +kernel)
set_option maxRecDepth 100000 in
theorem xd_243 : xdc prog_14_method_70_code k243 = true := fw_x (by decide +kernel)
set_option maxRecDepth 100000 in
theorem xd_244 : xdc prog_14_method_71_code k244 = true := fw_x (by decide +kernel)
set_option maxRecDepth 100000 in
theorem xd_245 : xdc prog_14_method_72_code k245 = true := fw_x (by decide +kernel)
set_option maxRecDepth 100000 in
theorem xd_246 : xdc prog_14_method_73_code k246 = true := fw_x (by decide +kernel)
set_option maxRecDepth 100000 in
theorem xd_247 : xdc prog_14_method_74_code k247 = true := fw_x (by decide +kernel)
set_option maxRecDepth 100000 in
theorem xd_248 : xdc prog_14_method_75_code k248 = true := fw_x (by decide +kernel)
set_option maxRecDepth 100000 in
theorem xd_249 : xdc prog_14_method_76_code k249 = true := fw_x (by decide +kernel)
set_option maxRecDepth 100000 in
theorem xd_250 : xdc prog_14_method_77_code k250 = true := fw_x (by decide +kernel)
set_option maxRecDepth 100000 in
theorem xd_251 : xdc prog_14_method_78_code k251 = true := fw_x (by decide +kernel)
set_option maxRecDepth 100000 in
theorem xd_252 : xdc prog_14_method_79_code k252 = true := fw_x (by decide +kernel)
set_option maxRecDepth 100000 in
theorem xd_253 : xdc prog_14_method_80_code k253 = true := fw_x (by decide +kernel)
set_option maxRecDepth 100000 in
theorem xd_254 : xdc prog_14_method_81_code k254 = true := fw_x (by decide +kernel)
set_option maxRecDepth 100000 in
theorem xd_255 : xdc prog_14_method_82_code k255 = true := fw_x (by decide +kernel)
set_option maxRecDepth 100000 in
theorem xd_256 : xdc prog_14_method_83_code k256 = true := fw_x (by decide +kernel)
set_option maxRecDepth 100000 in
theorem xd_257 : xdc prog_14_method_84_code k257 = true := fw_x (by decide +kernel)
set_option maxRecDepth 100000 in
theorem xd_258 : xdc prog_14_method_85_code k258 = true := fw_x (by decide +kernel)
set_option maxRecDepth 100000 in
theorem xd_259 : xdc prog_14_method_86_code k259 = true := fw_x (by decide +kernel)
set_option maxRecDepth 100000 in
theorem xd_260 : xdc prog_14_method_87_code k260 = true := fw_x (by decide +kernel)
set_option maxRecDepth 100000 in
theorem xd_261 : xdc prog_14_method_88_code k261 = true := fw_x (by decide +kernel)
set_option maxRecDepth 100000 in
theorem xd_262 : xdc prog_14_method_89_code k262 = true := fw_x (by decide +kernel)
set_option maxRecDepth 100000 in
theorem xd_263 : xdc prog_14_method_90_code k263 = true := fw_x (by decide +kernel)
set_option maxRecDepth 100000 in
theorem xd_264 : xdc prog_14_method_91_code k264 = true := fw_x (by decide +kernel)
set_option maxRecDepth 100000 in
theorem xd_265 : xdc prog_14_method_92_code k265 = true := fw_x (by decide +kernel)
set_option maxRecDepth 100000 in
theorem xd_266 : xdc prog_14_method_93_code k266 = true := fw_x (by decide +kernel)
set_option maxRecDepth 100000 in
theorem xd_267 : xdc prog_14_method_94_code k267 = true := fw_x (by decide +kernel)
set_option maxRecDepth 100000 in
theorem xd_268 : xdc prog_14_method_95_code k268 = true := fw_x (by decide +kernel)
set_option maxRecDepth 100000 in
theorem xd_269 : xdc prog_14_method_96_code k269 = true := fw_x (by decide +kernel)
set_option maxRecDepth 100000 in
theorem xd_270 : xdc prog_14_method_97_code k270 = true := fw_x (by decide +kernel)
set_option maxRecDepth 100000 in
theorem xd_271 : xdc prog_14_method_98_code k271 = true := fw_x (by decide +kernel)
set_option maxRecDepth 100000 in
theorem xd_272 : xdc prog_14_method_99_code k272 = true := fw_x (by decide +kernel)
set_option maxRecDepth 100000 in
theorem xd_273 : xdc prog_15_method_49_code k273 = true := fw_x (by decide +kernel)
set_option maxRecDepth 100000 in
theorem xd_274 : xdc prog_16_method_65_code k274 = true := fw_x (by decide +kernel)
set_option maxRecDepth 100000 in
theorem xd_275 : xdc prog_16_method_69_code k275 = true := fw_x (by decide +kernel)
set_option maxRecDepth 100000 in
theorem xd_276 : xdc code k276 = true := fw_x (by decide +kernel)
set_option maxRecDepth 100000 in
theorem xm_0 : xgt 437 = some (.code ⟨"TwoAlike$Changes", "<init>", "(LTwoAlike$Crowd;)V"⟩ prog_2_method_1_code 2 none) := rfl
set_option maxRecDepth 100000 in
theorem xm_1 : xgt 658 = some (.code ⟨"TwoAlike$Changes", "make", "(IIII)V"⟩ prog_2_method_2_code 5 none) := rfl
set_option maxRecDepth 100000 in
theorem xm_2 : xgt 662 = some (.code ⟨"TwoAlike$Changes", "forgetFirst", "()V"⟩ prog_2_method_3_code 2 none) := rfl
set_option maxRecDepth 100000 in
theorem xm_3 : xgt 1133 = some (.code ⟨"TwoAlike$Changes", "takeBack", "()I"⟩ prog_2_method_4_code 1 (some .int)) := rfl
set_option maxRecDepth 100000 in
theorem xm_4 : xgt 1157 = some (.code ⟨"TwoAlike$Changes", "makeAgain", "()I"⟩ prog_2_method_5_code 1 (some .int)) := rfl
set_option maxRecDepth 100000 in
theorem xm_5 : xgt 193 = some (.code ⟨"TwoAlike$Crowd", "<init>", "(LTwoAlike$Scene;)V"⟩ prog_3_method_1_code 2 none) := rfl
set_option maxRecDepth 100000 in
theorem xm_6 : xgt 601 = some (.code ⟨"TwoAlike$Crowd", "has", "(I)Z"⟩ prog_3_method_2_code 2 (some .boolean)) := rfl
set_option maxRecDepth 100000 in
theorem xm_7 : xgt 779 = some (.code ⟨"TwoAlike$Crowd", "hasTwo", "(I)Z"⟩ prog_3_method_3_code 2 (some .boolean)) := rfl
set_option maxRecDepth 100000 in
theorem xm_8 : xgt 989 = some (.code ⟨"TwoAlike$Crowd", "everybody", "()I"⟩ prog_3_method_4_code 1 (some .int)) := rfl
set_option maxRecDepth 100000 in
theorem xm_9 : xgt 565 = some (.code ⟨"TwoAlike$Crowd", "come", "(II)I"⟩ prog_3_method_5_code 3 (some .int)) := rfl
set_option maxRecDepth 100000 in
theorem xm_10 : xgt 605 = some (.code ⟨"TwoAlike$Crowd", "addErrand", "(III)I"⟩ prog_3_method_6_code 5 (some .int)) := rfl
set_option maxRecDepth 100000 in
theorem xm_11 : xgt 613 = some (.code ⟨"TwoAlike$Crowd", "dropErrands", "(I)I"⟩ prog_3_method_7_code 3 (some .int)) := rfl
set_option maxRecDepth 100000 in
theorem xm_12 : xgt 685 = some (.code ⟨"TwoAlike$Crowd", "minutesOf", "(I)I"⟩ prog_3_method_8_code 4 (some .int)) := rfl
set_option maxRecDepth 100000 in
theorem xm_13 : xgt 1282 = some (.code ⟨"TwoAlike$Crowd", "errandsOfAll", "()I"⟩ prog_3_method_9_code 3 (some .int)) := rfl
set_option maxRecDepth 100000 in
theorem xm_14 : xgt 642 = some (.code ⟨"TwoAlike$Crowd", "hatOf", "(I)I"⟩ prog_3_method_10_code 2 (some .int)) := rfl
set_option maxRecDepth 100000 in
theorem xm_15 : xgt 621 = some (.code ⟨"TwoAlike$Crowd", "mayWear", "(II)Z"⟩ prog_3_method_11_code 3 (some .boolean)) := rfl
set_option maxRecDepth 100000 in
theorem xm_16 : xgt 678 = some (.code ⟨"TwoAlike$Crowd", "seen", "(I)I"⟩ prog_3_method_12_code 2 (some .int)) := rfl
set_option maxRecDepth 100000 in
theorem xm_17 : xgt 952 = some (.code ⟨"TwoAlike$Crowd", "seenWith", "(II)I"⟩ prog_3_method_13_code 3 (some .int)) := rfl
set_option maxRecDepth 100000 in
theorem xm_18 : xgt 792 = some (.code ⟨"TwoAlike$Crowd", "seenAfter", "(II)I"⟩ prog_3_method_14_code 4 (some .int)) := rfl
set_option maxRecDepth 100000 in
theorem xm_19 : xgt 681 = some (.code ⟨"TwoAlike$Crowd", "withHat", "(II)I"⟩ prog_3_method_15_code 2 (some .int)) := rfl
set_option maxRecDepth 100000 in
theorem xm_20 : xgt 654 = some (.code ⟨"TwoAlike$Crowd", "told", "(II)I"⟩ prog_3_method_16_code 3 (some .int)) := rfl
set_option maxRecDepth 100000 in
theorem xm_21 : xgt 666 = some (.code ⟨"TwoAlike$Crowd", "tell", "(III)V"⟩ prog_3_method_17_code 4 none) := rfl
set_option maxRecDepth 100000 in
theorem xm_22 : xgt 1113 = some (.code ⟨"TwoAlike$Crowd", "turnMonth", "()I"⟩ prog_3_method_18_code 2 (some .int)) := rfl
set_option maxRecDepth 100000 in
theorem xm_23 : xgt 312 = some (.code ⟨"TwoAlike$Day", "<init>", "(LTwoAlike$Crowd;LTwoAlike$Likeness;)V"⟩ prog_4_method_1_code 3 none) := rfl
set_option maxRecDepth 100000 in
theorem xm_24 : xgt 831 = some (.code ⟨"TwoAlike$Day", "layByNumbers", "()V"⟩ prog_4_method_2_code 1 none) := rfl
set_option maxRecDepth 100000 in
theorem xm_25 : xgt 840 = some (.code ⟨"TwoAlike$Day", "layWithout", "(I)V"⟩ prog_4_method_3_code 4 none) := rfl
set_option maxRecDepth 100000 in
theorem xm_26 : xgt 844 = some (.code ⟨"TwoAlike$Day", "takeTurn", "(II)I"⟩ prog_4_method_4_code 8 (some .int)) := rfl
set_option maxRecDepth 100000 in
theorem xm_27 : xgt 848 = some (.code ⟨"TwoAlike$Day", "stayAtHome", "(I)V"⟩ prog_4_method_5_code 3 none) := rfl
set_option maxRecDepth 100000 in
theorem xm_28 : xgt 852 = some (.code ⟨"TwoAlike$Day", "shutMinutes", "(II)I"⟩ prog_4_method_6_code 5 (some .int)) := rfl
set_option maxRecDepth 100000 in
theorem xm_29 : xgt 855 = some (.code ⟨"TwoAlike$Day", "firstFree", "(III)I"⟩ prog_4_method_7_code 5 (some .int)) := rfl
set_option maxRecDepth 100000 in
theorem xm_30 : xgt 864 = some (.code ⟨"TwoAlike$Day", "waitedByAll", "()I"⟩ prog_4_method_8_code 3 (some .int)) := rfl
set_option maxRecDepth 100000 in
theorem xm_31 : xgt 875 = some (.code ⟨"TwoAlike$Day", "streetOf", "(II)I"⟩ prog_4_method_9_code 4 (some .int)) := rfl
set_option maxRecDepth 100000 in
theorem xm_32 : xgt 860 = some (.code ⟨"TwoAlike$Day", "remember", "()V"⟩ prog_4_method_10_code 2 none) := rfl
set_option maxRecDepth 100000 in
theorem xm_33 : xgt 927 = some (.code ⟨"TwoAlike$Day", "whoBars", "(I)I"⟩ prog_4_method_11_code 5 (some .int)) := rfl
set_option maxRecDepth 100000 in
theorem xm_34 : xgt 903 = some (.code ⟨"TwoAlike$Day", "findBestOrder", "()V"⟩ prog_4_method_12_code 1 none) := rfl
set_option maxRecDepth 100000 in
theorem xm_35 : xgt 907 = some (.code ⟨"TwoAlike$Day", "orderFrom", "(III)V"⟩ prog_4_method_13_code 5 none) := rfl
set_option maxRecDepth 100000 in
theorem xm_36 : xgt 919 = some (.code ⟨"TwoAlike$Day", "orderWith", "(IIII)V"⟩ prog_4_method_14_code 6 none) := rfl
set_option maxRecDepth 100000 in
theorem xm_37 : xgt 915 = some (.code ⟨"TwoAlike$Day", "leastToCome", "(II)I"⟩ prog_4_method_15_code 5 (some .int)) := rfl
set_option maxRecDepth 100000 in
theorem xm_38 : xgt 911 = some (.code ⟨"TwoAlike$Day", "keepOrder", "(I)V"⟩ prog_4_method_16_code 3 none) := rfl
set_option maxRecDepth 100000 in
theorem xm_39 : xgt 244 = some (.code ⟨"TwoAlike$Law", "<init>", "()V"⟩ prog_5_method_1_code 1 none) := rfl
set_option maxRecDepth 100000 in
theorem xm_40 : xgt 771 = some (.code ⟨"TwoAlike$Law", "copy", "(LTwoAlike$Law;)V"⟩ prog_5_method_2_code 3 none) := rfl
set_option maxRecDepth 100000 in
theorem xm_41 : xgt 752 = some (.code ⟨"TwoAlike$Law", "add", "(II)V"⟩ prog_5_method_3_code 3 none) := rfl
set_option maxRecDepth 100000 in
theorem xm_42 : xgt 767 = some (.code ⟨"TwoAlike$Law", "endSkip", "(I)V"⟩ prog_5_method_4_code 2 none) := rfl
set_option maxRecDepth 100000 in
theorem xm_43 : xgt 796 = some (.code ⟨"TwoAlike$Law", "holds", "(IIIII)Z"⟩ prog_5_method_5_code 10 (some .boolean)) := rfl
set_option maxRecDepth 100000 in
theorem xm_44 : xgt 816 = some (.code ⟨"TwoAlike$Law", "run", "(II)V"⟩ prog_5_method_6_code 4 none) := rfl
set_option maxRecDepth 100000 in
theorem xm_45 : xgt 823 = some (.code ⟨"TwoAlike$Law", "joined", "(III)I"⟩ prog_5_method_7_code 3 (some .int)) := rfl
set_option maxRecDepth 100000 in
theorem xm_46 : xgt 820 = some (.code ⟨"TwoAlike$Law", "push", "(I)V"⟩ prog_5_method_8_code 2 none) := rfl
set_option maxRecDepth 100000 in
theorem xm_47 : xgt 812 = some (.code ⟨"TwoAlike$Law", "pop", "()I"⟩ prog_5_method_9_code 1 (some .int)) := rfl
set_option maxRecDepth 100000 in
theorem xm_48 : xgt 294 = some (.code ⟨"TwoAlike$Likeness", "<init>", "(LTwoAlike$Crowd;LTwoAlike$Law;)V"⟩ prog_6_method_1_code 3 none) := rfl
set_option maxRecDepth 100000 in
theorem xm_49 : xgt 784 = some (.code ⟨"TwoAlike$Likeness", "isAfter", "(III)Z"⟩ prog_6_method_2_code 6 (some .boolean)) := rfl
set_option maxRecDepth 100000 in
theorem xm_50 : xgt 948 = some (.code ⟨"TwoAlike$Likeness", "isWith", "(IIII)Z"⟩ prog_6_method_3_code 6 (some .boolean)) := rfl
set_option maxRecDepth 100000 in
theorem xm_51 : xgt 788 = some (.code ⟨"TwoAlike$Likeness", "worn", "(I)I"⟩ prog_6_method_4_code 1 (some .int)) := rfl
set_option maxRecDepth 100000 in
theorem xm_52 : xgt 835 = some (.code ⟨"TwoAlike$Likeness", "lookAround", "()V"⟩ prog_6_method_5_code 3 none) := rfl
set_option maxRecDepth 100000 in
theorem xm_53 : xgt 976 = some (.code ⟨"TwoAlike$Likeness", "pairsAfter", "(I)I"⟩ prog_6_method_6_code 5 (some .int)) := rfl
set_option maxRecDepth 100000 in
theorem xm_54 : xgt 984 = some (.code ⟨"TwoAlike$Likeness", "greatestKind", "()I"⟩ prog_6_method_7_code 3 (some .int)) := rfl
set_option maxRecDepth 100000 in
theorem xm_55 : xgt 994 = some (.code ⟨"TwoAlike$Likeness", "isKind", "(I)Z"⟩ prog_6_method_8_code 3 (some .boolean)) := rfl
set_option maxRecDepth 100000 in
theorem xm_56 : xgt 1003 = some (.code ⟨"TwoAlike$Likeness", "hatToPass", "(II)I"⟩ prog_6_method_9_code 4 (some .int)) := rfl
set_option maxRecDepth 100000 in
theorem xm_57 : xgt 157 = some (.code ⟨"TwoAlike$Scene", "<init>", "()V"⟩ prog_7_method_1_code 2 none) := rfl
set_option maxRecDepth 100000 in
theorem xm_58 : xgt 1121 = some (.code ⟨"TwoAlike$Scene", "copy", "(LTwoAlike$Scene;)V"⟩ prog_7_method_2_code 3 none) := rfl
set_option maxRecDepth 100000 in
theorem xm_59 : xgt 689 = some (.code ⟨"TwoAlike$Scene", "hasSight", "(I)Z"⟩ prog_7_method_3_code 2 (some .boolean)) := rfl
set_option maxRecDepth 100000 in
theorem xm_60 : xgt 1051 = some (.code ⟨"TwoAlike$Scene", "addSight", "(III)I"⟩ prog_7_method_4_code 4 (some .int)) := rfl
set_option maxRecDepth 100000 in
theorem xm_61 : xgt 1013 = some (.code ⟨"TwoAlike$Scene", "tellDay", "(IIII)I"⟩ prog_7_method_5_code 6 (some .int)) := rfl
set_option maxRecDepth 100000 in
theorem xm_62 : xgt 1030 = some (.code ⟨"TwoAlike$Scene", "toldStreet", "(II)I"⟩ prog_7_method_6_code 3 (some .int)) := rfl
set_option maxRecDepth 100000 in
theorem xm_63 : xgt 1038 = some (.code ⟨"TwoAlike$Scene", "firstApart", "(II)I"⟩ prog_7_method_7_code 5 (some .int)) := rfl
set_option maxRecDepth 100000 in
theorem xm_64 : xgt 1043 = some (.code ⟨"TwoAlike$Scene", "minutesApart", "(II)I"⟩ prog_7_method_8_code 5 (some .int)) := rfl
set_option maxRecDepth 100000 in
theorem xm_65 : xgt 492 = some (.code ⟨"TwoAlike$Shelves", "<init>", "()V"⟩ prog_8_method_1_code 1 none) := rfl
set_option maxRecDepth 100000 in
theorem xm_66 : xgt 573 = some (.code ⟨"TwoAlike$Shelves", "isShelf", "(I)Z"⟩ prog_8_method_2_code 2 (some .boolean)) := rfl
set_option maxRecDepth 100000 in
theorem xm_67 : xgt 1222 = some (.code ⟨"TwoAlike$Shelves", "isSort", "(I)Z"⟩ prog_8_method_3_code 2 (some .boolean)) := rfl
set_option maxRecDepth 100000 in
theorem xm_68 : xgt 577 = some (.code ⟨"TwoAlike$Shelves", "isBare", "(I)Z"⟩ prog_8_method_4_code 2 (some .boolean)) := rfl
set_option maxRecDepth 100000 in
theorem xm_69 : xgt 581 = some (.code ⟨"TwoAlike$Shelves", "isRowOf", "(II)Z"⟩ prog_8_method_5_code 3 (some .boolean)) := rfl
set_option maxRecDepth 100000 in
theorem xm_70 : xgt 589 = some (.code ⟨"TwoAlike$Shelves", "sizeOf", "(I)I"⟩ prog_8_method_6_code 2 (some .int)) := rfl
set_option maxRecDepth 100000 in
theorem xm_71 : xgt 1271 = some (.code ⟨"TwoAlike$Shelves", "twinOn", "(I)I"⟩ prog_8_method_7_code 2 (some .int)) := rfl
set_option maxRecDepth 100000 in
theorem xm_72 : xgt 1214 = some (.code ⟨"TwoAlike$Shelves", "holdTwin", "(II)I"⟩ prog_8_method_8_code 3 (some .int)) := rfl
set_option maxRecDepth 100000 in
theorem xm_73 : xgt 1226 = some (.code ⟨"TwoAlike$Shelves", "holdRow", "(III)I"⟩ prog_8_method_9_code 5 (some .int)) := rfl
set_option maxRecDepth 100000 in
theorem xm_74 : xgt 1234 = some (.code ⟨"TwoAlike$Shelves", "refusal", "(II)I"⟩ prog_8_method_10_code 3 (some .int)) := rfl
set_option maxRecDepth 100000 in
theorem xm_75 : xgt 593 = some (.code ⟨"TwoAlike$Shelves", "read", "(II)J"⟩ prog_8_method_11_code 3 (some .long)) := rfl
set_option maxRecDepth 100000 in
theorem xm_76 : xgt 1239 = some (.code ⟨"TwoAlike$Shelves", "write", "(IIJ)V"⟩ prog_8_method_12_code 5 none) := rfl
set_option maxRecDepth 100000 in
theorem xm_77 : xgt 1242 = some (.code ⟨"TwoAlike$Shelves", "lowestBits", "(IJ)J"⟩ prog_8_method_13_code 3 (some .long)) := rfl
set_option maxRecDepth 100000 in
theorem xm_78 : xgt 1255 = some (.code ⟨"TwoAlike$Shelves", "move", "(IIIII)I"⟩ prog_8_method_14_code 6 (some .int)) := rfl
set_option maxRecDepth 100000 in
theorem xm_79 : xgt 1260 = some (.code ⟨"TwoAlike$Shelves", "reaches", "(III)Z"⟩ prog_8_method_15_code 4 (some .boolean)) := rfl
set_option maxRecDepth 100000 in
theorem xm_80 : xgt 412 = some (.code ⟨"TwoAlike$Sightings", "<init>", "(LTwoAlike$Scene;LTwoAlike$Crowd;LTwoAlike$Likeness;)V"⟩ prog_9_method_1_code 4 none) := rfl
set_option maxRecDepth 100000 in
theorem xm_81 : xgt 1021 = some (.code ⟨"TwoAlike$Sightings", "firstMeeting", "()I"⟩ prog_9_method_2_code 3 (some .int)) := rfl
set_option maxRecDepth 100000 in
theorem xm_82 : xgt 1026 = some (.code ⟨"TwoAlike$Sightings", "firstTwoIn", "(I)I"⟩ prog_9_method_3_code 6 (some .int)) := rfl
set_option maxRecDepth 100000 in
theorem xm_83 : xgt 1059 = some (.code ⟨"TwoAlike$Sightings", "fewestPeople", "(I)I"⟩ prog_9_method_4_code 4 (some .int)) := rfl
set_option maxRecDepth 100000 in
theorem xm_84 : xgt 1063 = some (.code ⟨"TwoAlike$Sightings", "bar", "(III)Z"⟩ prog_9_method_5_code 5 (some .boolean)) := rfl
set_option maxRecDepth 100000 in
theorem xm_85 : xgt 1068 = some (.code ⟨"TwoAlike$Sightings", "shareOutFrom", "(II)V"⟩ prog_9_method_6_code 4 none) := rfl
set_option maxRecDepth 100000 in
theorem xm_86 : xgt 1072 = some (.code ⟨"TwoAlike$Sightings", "shareInto", "(III)V"⟩ prog_9_method_7_code 4 none) := rfl
set_option maxRecDepth 100000 in
theorem xm_87 : xgt 1080 = some (.code ⟨"TwoAlike$Sightings", "whoCanBe", "(I)I"⟩ prog_9_method_8_code 4 (some .int)) := rfl
set_option maxRecDepth 100000 in
theorem xm_88 : xgt 1084 = some (.code ⟨"TwoAlike$Sightings", "canLook", "(II)Z"⟩ prog_9_method_9_code 4 (some .boolean)) := rfl
set_option maxRecDepth 100000 in
theorem xm_89 : xgt 1095 = some (.code ⟨"TwoAlike$Sightings", "goneFrom", "(I)I"⟩ prog_9_method_10_code 4 (some .int)) := rfl
set_option maxRecDepth 100000 in
theorem xm_90 : xgt 1101 = some (.code ⟨"TwoAlike$Sightings", "livedOn", "(I)I"⟩ prog_9_method_11_code 4 (some .int)) := rfl
set_option maxRecDepth 100000 in
theorem xm_91 : xgt 270 = some (.code ⟨"TwoAlike$Tape", "<init>", "()V"⟩ prog_10_method_1_code 1 none) := rfl
set_option maxRecDepth 100000 in
theorem xm_92 : xgt 701 = some (.code ⟨"TwoAlike$Tape", "take", "(I)I"⟩ prog_10_method_2_code 2 (some .int)) := rfl
set_option maxRecDepth 100000 in
theorem xm_93 : xgt 709 = some (.code ⟨"TwoAlike$Tape", "isText", "()Z"⟩ prog_10_method_3_code 3 (some .boolean)) := rfl
set_option maxRecDepth 100000 in
theorem xm_94 : xgt 741 = some (.code ⟨"TwoAlike$Tape", "next", "()I"⟩ prog_10_method_4_code 1 (some .int)) := rfl
set_option maxRecDepth 100000 in
theorem xm_95 : xgt 763 = some (.code ⟨"TwoAlike$Tape", "passOver", "(I)Z"⟩ prog_10_method_5_code 2 (some .boolean)) := rfl
set_option maxRecDepth 100000 in
theorem xm_96 : xgt 713 = some (.code ⟨"TwoAlike$Tape", "readLine", "()Z"⟩ prog_10_method_6_code 2 (some .boolean)) := rfl
set_option maxRecDepth 100000 in
theorem xm_97 : xgt 717 = some (.code ⟨"TwoAlike$Tape", "readEither", "(I)Z"⟩ prog_10_method_7_code 3 (some .boolean)) := rfl
set_option maxRecDepth 100000 in
theorem xm_98 : xgt 721 = some (.code ⟨"TwoAlike$Tape", "readBoth", "(I)Z"⟩ prog_10_method_8_code 3 (some .boolean)) := rfl
set_option maxRecDepth 100000 in
theorem xm_99 : xgt 725 = some (.code ⟨"TwoAlike$Tape", "readComparison", "(I)Z"⟩ prog_10_method_9_code 3 (some .boolean)) := rfl
set_option maxRecDepth 100000 in
theorem xm_100 : xgt 729 = some (.code ⟨"TwoAlike$Tape", "readSum", "(I)Z"⟩ prog_10_method_10_code 4 (some .boolean)) := rfl
set_option maxRecDepth 100000 in
theorem xm_101 : xgt 733 = some (.code ⟨"TwoAlike$Tape", "readProduct", "(I)Z"⟩ prog_10_method_11_code 4 (some .boolean)) := rfl
set_option maxRecDepth 100000 in
theorem xm_102 : xgt 737 = some (.code ⟨"TwoAlike$Tape", "readOperand", "(I)Z"⟩ prog_10_method_12_code 4 (some .boolean)) := rfl
set_option maxRecDepth 100000 in
theorem xm_103 : xgt 759 = some (.code ⟨"TwoAlike$Tape", "readOpened", "(II)Z"⟩ prog_10_method_13_code 3 (some .boolean)) := rfl
set_option maxRecDepth 100000 in
theorem xm_104 : xgt 748 = some (.code ⟨"TwoAlike$Tape", "readNumber", "()Z"⟩ prog_10_method_14_code 3 (some .boolean)) := rfl
set_option maxRecDepth 100000 in
theorem xm_105 : xgt 744 = some (.code ⟨"TwoAlike$Tape", "isDigit", "(I)Z"⟩ prog_10_method_15_code 1 (some .boolean)) := rfl
set_option maxRecDepth 100000 in
theorem xm_106 : xgt 755 = some (.code ⟨"TwoAlike$Tape", "nameOf", "(I)I"⟩ prog_10_method_16_code 1 (some .int)) := rfl
set_option maxRecDepth 100000 in
theorem xm_107 : xgt 466 = some (.code ⟨"TwoAlike$Twins", "<init>", "()V"⟩ prog_11_method_1_code 1 none) := rfl
set_option maxRecDepth 100000 in
theorem xm_108 : xgt 1164 = some (.code ⟨"TwoAlike$Twins", "isKind", "(I)Z"⟩ prog_11_method_2_code 1 (some .boolean)) := rfl
set_option maxRecDepth 100000 in
theorem xm_109 : xgt 1274 = some (.code ⟨"TwoAlike$Twins", "isUnder", "(II)Z"⟩ prog_11_method_3_code 4 (some .boolean)) := rfl
set_option maxRecDepth 100000 in
theorem xm_110 : xgt 1180 = some (.code ⟨"TwoAlike$Twins", "has", "(I)Z"⟩ prog_11_method_4_code 2 (some .boolean)) := rfl
set_option maxRecDepth 100000 in
theorem xm_111 : xgt 1168 = some (.code ⟨"TwoAlike$Twins", "add", "(I)I"⟩ prog_11_method_5_code 2 (some .int)) := rfl
set_option maxRecDepth 100000 in
theorem xm_112 : xgt 1204 = some (.code ⟨"TwoAlike$Twins", "traced", "()I"⟩ prog_11_method_6_code 1 (some .int)) := rfl
set_option maxRecDepth 100000 in
theorem xm_113 : xgt 1176 = some (.code ⟨"TwoAlike$Twins", "begin", "(III)I"⟩ prog_11_method_7_code 4 (some .int)) := rfl
set_option maxRecDepth 100000 in
theorem xm_114 : xgt 1184 = some (.code ⟨"TwoAlike$Twins", "own", "(III)I"⟩ prog_11_method_8_code 4 (some .int)) := rfl
set_option maxRecDepth 100000 in
theorem xm_115 : xgt 1188 = some (.code ⟨"TwoAlike$Twins", "from", "(IIII)I"⟩ prog_11_method_9_code 7 (some .int)) := rfl
set_option maxRecDepth 100000 in
theorem xm_116 : xgt 1196 = some (.code ⟨"TwoAlike$Twins", "run", "(III)I"⟩ prog_11_method_10_code 7 (some .int)) := rfl
set_option maxRecDepth 100000 in
theorem xm_117 : xgt 366 = some (.code ⟨"TwoAlike$Wardrobe", "<init>", "(LTwoAlike$Crowd;LTwoAlike$Likeness;)V"⟩ prog_12_method_1_code 3 none) := rfl
set_option maxRecDepth 100000 in
theorem xm_118 : xgt 939 = some (.code ⟨"TwoAlike$Wardrobe", "findFewest", "()Z"⟩ prog_12_method_2_code 3 (some .boolean)) := rfl
set_option maxRecDepth 100000 in
theorem xm_119 : xgt 943 = some (.code ⟨"TwoAlike$Wardrobe", "findClashes", "(II)V"⟩ prog_12_method_3_code 6 none) := rfl
set_option maxRecDepth 100000 in
theorem xm_120 : xgt 956 = some (.code ⟨"TwoAlike$Wardrobe", "chooseFrom", "(II)V"⟩ prog_12_method_4_code 4 none) := rfl
set_option maxRecDepth 100000 in
theorem xm_121 : xgt 964 = some (.code ⟨"TwoAlike$Wardrobe", "choose", "(III)V"⟩ prog_12_method_5_code 4 none) := rfl
set_option maxRecDepth 100000 in
theorem xm_122 : xgt 968 = some (.code ⟨"TwoAlike$Wardrobe", "leavesFree", "(II)Z"⟩ prog_12_method_6_code 5 (some .boolean)) := rfl
set_option maxRecDepth 100000 in
theorem xm_123 : xgt 960 = some (.code ⟨"TwoAlike$Wardrobe", "mustWear", "(I)I"⟩ prog_12_method_7_code 4 (some .int)) := rfl
set_option maxRecDepth 100000 in
theorem xm_124 : xgt 149 = some (.code ⟨"TwoAlike", "<init>", "()V"⟩ prog_1_method_1_code 1 none) := rfl
set_option maxRecDepth 100000 in
theorem xm_125 : xgt 557 = some (.code ⟨"TwoAlike", "person", "(II)I"⟩ prog_1_method_2_code 3 (some .int)) := rfl
set_option maxRecDepth 100000 in
theorem xm_126 : xgt 569 = some (.code ⟨"TwoAlike", "people", "(III)I"⟩ prog_1_method_3_code 4 (some .int)) := rfl
set_option maxRecDepth 100000 in
theorem xm_127 : xgt 585 = some (.code ⟨"TwoAlike", "comeFromRow", "(III)I"⟩ prog_1_method_4_code 11 (some .int)) := rfl
set_option maxRecDepth 100000 in
theorem xm_128 : xgt 597 = some (.code ⟨"TwoAlike", "errand", "(II)I"⟩ prog_1_method_5_code 5 (some .int)) := rfl
set_option maxRecDepth 100000 in
theorem xm_129 : xgt 609 = some (.code ⟨"TwoAlike", "clear", "(I)I"⟩ prog_1_method_6_code 2 (some .int)) := rfl
set_option maxRecDepth 100000 in
theorem xm_130 : xgt 617 = some (.code ⟨"TwoAlike", "hat", "(II)I"⟩ prog_1_method_7_code 4 (some .int)) := rfl
set_option maxRecDepth 100000 in
theorem xm_131 : xgt 646 = some (.code ⟨"TwoAlike", "mend", "(III)I"⟩ prog_1_method_8_code 5 (some .int)) := rfl
set_option maxRecDepth 100000 in
theorem xm_132 : xgt 650 = some (.code ⟨"TwoAlike", "mayBecome", "(III)Z"⟩ prog_1_method_9_code 4 (some .boolean)) := rfl
set_option maxRecDepth 100000 in
theorem xm_133 : xgt 670 = some (.code ⟨"TwoAlike", "of", "(II)I"⟩ prog_1_method_10_code 3 (some .int)) := rfl
set_option maxRecDepth 100000 in
theorem xm_134 : xgt 674 = some (.code ⟨"TwoAlike", "ofPerson", "(II)I"⟩ prog_1_method_11_code 3 (some .int)) := rfl
set_option maxRecDepth 100000 in
theorem xm_135 : xgt 693 = some (.code ⟨"TwoAlike", "ofSight", "(II)I"⟩ prog_1_method_12_code 3 (some .int)) := rfl
set_option maxRecDepth 100000 in
theorem xm_136 : xgt 697 = some (.code ⟨"TwoAlike", "feed", "(I)I"⟩ prog_1_method_13_code 2 (some .int)) := rfl
set_option maxRecDepth 100000 in
theorem xm_137 : xgt 705 = some (.code ⟨"TwoAlike", "law", "()I"⟩ prog_1_method_14_code 3 (some .int)) := rfl
set_option maxRecDepth 100000 in
theorem xm_138 : xgt 775 = some (.code ⟨"TwoAlike", "alike", "(I)I"⟩ prog_1_method_15_code 2 (some .int)) := rfl
set_option maxRecDepth 100000 in
theorem xm_139 : xgt 827 = some (.code ⟨"TwoAlike", "plan", "()I"⟩ prog_1_method_16_code 1 (some .int)) := rfl
set_option maxRecDepth 100000 in
theorem xm_140 : xgt 868 = some (.code ⟨"TwoAlike", "where", "(II)I"⟩ prog_1_method_17_code 3 (some .int)) := rfl
set_option maxRecDepth 100000 in
theorem xm_141 : xgt 879 = some (.code ⟨"TwoAlike", "waited", "(II)I"⟩ prog_1_method_18_code 3 (some .int)) := rfl
set_option maxRecDepth 100000 in
theorem xm_142 : xgt 899 = some (.code ⟨"TwoAlike", "best", "(I)I"⟩ prog_1_method_19_code 2 (some .int)) := rfl
set_option maxRecDepth 100000 in
theorem xm_143 : xgt 923 = some (.code ⟨"TwoAlike", "bars", "(I)I"⟩ prog_1_method_20_code 2 (some .int)) := rfl
set_option maxRecDepth 100000 in
theorem xm_144 : xgt 931 = some (.code ⟨"TwoAlike", "led", "(II)I"⟩ prog_1_method_21_code 3 (some .int)) := rfl
set_option maxRecDepth 100000 in
theorem xm_145 : xgt 935 = some (.code ⟨"TwoAlike", "hats", "(I)I"⟩ prog_1_method_22_code 2 (some .int)) := rfl
set_option maxRecDepth 100000 in
theorem xm_146 : xgt 972 = some (.code ⟨"TwoAlike", "needs", "()I"⟩ prog_1_method_23_code 1 (some .int)) := rfl
set_option maxRecDepth 100000 in
theorem xm_147 : xgt 980 = some (.code ⟨"TwoAlike", "kinds", "(I)I"⟩ prog_1_method_24_code 3 (some .int)) := rfl
set_option maxRecDepth 100000 in
theorem xm_148 : xgt 999 = some (.code ⟨"TwoAlike", "pass", "(I)I"⟩ prog_1_method_25_code 2 (some .int)) := rfl
set_option maxRecDepth 100000 in
theorem xm_149 : xgt 1009 = some (.code ⟨"TwoAlike", "go", "(III)I"⟩ prog_1_method_26_code 6 (some .int)) := rfl
set_option maxRecDepth 100000 in
theorem xm_150 : xgt 1017 = some (.code ⟨"TwoAlike", "judge", "(I)I"⟩ prog_1_method_27_code 3 (some .int)) := rfl
set_option maxRecDepth 100000 in
theorem xm_151 : xgt 1034 = some (.code ⟨"TwoAlike", "watch", "(II)I"⟩ prog_1_method_28_code 3 (some .int)) := rfl
set_option maxRecDepth 100000 in
theorem xm_152 : xgt 1047 = some (.code ⟨"TwoAlike", "sight", "(II)I"⟩ prog_1_method_29_code 3 (some .int)) := rfl
set_option maxRecDepth 100000 in
theorem xm_153 : xgt 1055 = some (.code ⟨"TwoAlike", "atLeast", "(I)I"⟩ prog_1_method_30_code 2 (some .int)) := rfl
set_option maxRecDepth 100000 in
theorem xm_154 : xgt 1076 = some (.code ⟨"TwoAlike", "who", "(I)I"⟩ prog_1_method_31_code 2 (some .int)) := rfl
set_option maxRecDepth 100000 in
theorem xm_155 : xgt 1091 = some (.code ⟨"TwoAlike", "gone", "(II)I"⟩ prog_1_method_32_code 4 (some .int)) := rfl
set_option maxRecDepth 100000 in
theorem xm_156 : xgt 1105 = some (.code ⟨"TwoAlike", "months", "(I)I"⟩ prog_1_method_33_code 2 (some .int)) := rfl
set_option maxRecDepth 100000 in
theorem xm_157 : xgt 1109 = some (.code ⟨"TwoAlike", "turn", "()I"⟩ prog_1_method_34_code 1 (some .int)) := rfl
set_option maxRecDepth 100000 in
theorem xm_158 : xgt 1117 = some (.code ⟨"TwoAlike", "image", "()I"⟩ prog_1_method_35_code 1 (some .int)) := rfl
set_option maxRecDepth 100000 in
theorem xm_159 : xgt 1125 = some (.code ⟨"TwoAlike", "back", "()I"⟩ prog_1_method_36_code 1 (some .int)) := rfl
set_option maxRecDepth 100000 in
theorem xm_160 : xgt 1129 = some (.code ⟨"TwoAlike", "undo", "()I"⟩ prog_1_method_37_code 1 (some .int)) := rfl
set_option maxRecDepth 100000 in
theorem xm_161 : xgt 1153 = some (.code ⟨"TwoAlike", "redo", "()I"⟩ prog_1_method_38_code 1 (some .int)) := rfl
set_option maxRecDepth 100000 in
theorem xm_162 : xgt 1161 = some (.code ⟨"TwoAlike", "body", "(I)I"⟩ prog_1_method_39_code 2 (some .int)) := rfl
set_option maxRecDepth 100000 in
theorem xm_163 : xgt 1172 = some (.code ⟨"TwoAlike", "act", "(III)I"⟩ prog_1_method_40_code 4 (some .int)) := rfl
set_option maxRecDepth 100000 in
theorem xm_164 : xgt 1200 = some (.code ⟨"TwoAlike", "trace", "(I)I"⟩ prog_1_method_41_code 2 (some .int)) := rfl
set_option maxRecDepth 100000 in
theorem xm_165 : xgt 1209 = some (.code ⟨"TwoAlike", "keep", "(II)I"⟩ prog_1_method_42_code 3 (some .int)) := rfl
set_option maxRecDepth 100000 in
theorem xm_166 : xgt 1218 = some (.code ⟨"TwoAlike", "row", "(III)I"⟩ prog_1_method_43_code 4 (some .int)) := rfl
set_option maxRecDepth 100000 in
theorem xm_167 : xgt 1230 = some (.code ⟨"TwoAlike", "put", "(IIJ)I"⟩ prog_1_method_44_code 6 (some .int)) := rfl
set_option maxRecDepth 100000 in
theorem xm_168 : xgt 1246 = some (.code ⟨"TwoAlike", "element", "(II)J"⟩ prog_1_method_45_code 3 (some .long)) := rfl
set_option maxRecDepth 100000 in
theorem xm_169 : xgt 1251 = some (.code ⟨"TwoAlike", "shift", "(IIIII)I"⟩ prog_1_method_46_code 6 (some .int)) := rfl
set_option maxRecDepth 100000 in
theorem xm_170 : xgt 1267 = some (.code ⟨"TwoAlike", "taken", "(II)I"⟩ prog_1_method_47_code 5 (some .int)) := rfl
set_option maxRecDepth 100000 in
theorem xm_171 : xgt 1278 = some (.code ⟨"TwoAlike", "count", "(I)I"⟩ prog_1_method_48_code 2 (some .int)) := rfl
set_option maxRecDepth 100000 in
theorem xm_172 : xgt 560 = some (.code ⟨"TwoAlike", "isParts", "(J)Z"⟩ prog_1_method_49_code 2 (some .boolean)) := rfl
set_option maxRecDepth 100000 in
theorem xm_173 : xgt 871 = some (.code ⟨"TwoAlike", "isMinute", "(I)Z"⟩ prog_1_method_50_code 1 (some .boolean)) := rfl
set_option maxRecDepth 100000 in
theorem xm_174 : xgt 1486 = some (.code ⟨"TwoAlikeModel", "within", "(JJJ)Z"⟩ prog_14_method_1_code 6 (some .boolean)) := rfl
set_option maxRecDepth 100000 in
theorem xm_175 : xgt 1625 = some (.code ⟨"TwoAlikeModel", "bitsOf", "(I)I"⟩ prog_14_method_2_code 3 (some .int)) := rfl
set_option maxRecDepth 100000 in
theorem xm_176 : xgt 1519 = some (.code ⟨"TwoAlikeModel", "isIn", "(II)Z"⟩ prog_14_method_3_code 2 (some .boolean)) := rfl
set_option maxRecDepth 100000 in
theorem xm_177 : xgt 1287 = some (.code ⟨"TwoAlikeModel", "<init>", "()V"⟩ prog_14_method_4_code 2 none) := rfl
set_option maxRecDepth 100000 in
theorem xm_178 : xgt 1528 = some (.code ⟨"TwoAlikeModel", "becomes", "(II)I"⟩ prog_14_method_5_code 5 (some .int)) := rfl
set_option maxRecDepth 100000 in
theorem xm_179 : xgt 1471 = some (.code ⟨"TwoAlikeModel", "undo", "()I"⟩ prog_14_method_6_code 1 (some .int)) := rfl
set_option maxRecDepth 100000 in
theorem xm_180 : xgt 1475 = some (.code ⟨"TwoAlikeModel", "redo", "()I"⟩ prog_14_method_7_code 1 (some .int)) := rfl
set_option maxRecDepth 100000 in
theorem xm_181 : xgt 1507 = some (.code ⟨"TwoAlikeModel", "isPerson", "(I)Z"⟩ prog_14_method_8_code 2 (some .boolean)) := rfl
set_option maxRecDepth 100000 in
theorem xm_182 : xgt 1611 = some (.code ⟨"TwoAlikeModel", "isPq", "(I)Z"⟩ prog_14_method_9_code 2 (some .boolean)) := rfl
set_option maxRecDepth 100000 in
theorem xm_183 : xgt 1482 = some (.code ⟨"TwoAlikeModel", "areLooks", "(J)Z"⟩ prog_14_method_10_code 2 (some .boolean)) := rfl
set_option maxRecDepth 100000 in
theorem xm_184 : xgt 1490 = some (.code ⟨"TwoAlikeModel", "adds", "(II)V"⟩ prog_14_method_11_code 3 none) := rfl
set_option maxRecDepth 100000 in
theorem xm_185 : xgt 1479 = some (.code ⟨"TwoAlikeModel", "person", "(II)I"⟩ prog_14_method_12_code 3 (some .int)) := rfl
set_option maxRecDepth 100000 in
theorem xm_186 : xgt 1494 = some (.code ⟨"TwoAlikeModel", "people", "(III)I"⟩ prog_14_method_13_code 7 (some .int)) := rfl
set_option maxRecDepth 100000 in
theorem xm_187 : xgt 1503 = some (.code ⟨"TwoAlikeModel", "errand", "(II)I"⟩ prog_14_method_14_code 3 (some .int)) := rfl
set_option maxRecDepth 100000 in
theorem xm_188 : xgt 1512 = some (.code ⟨"TwoAlikeModel", "clear", "(I)I"⟩ prog_14_method_15_code 3 (some .int)) := rfl
set_option maxRecDepth 100000 in
theorem xm_189 : xgt 1516 = some (.code ⟨"TwoAlikeModel", "hat", "(II)I"⟩ prog_14_method_16_code 4 (some .int)) := rfl
set_option maxRecDepth 100000 in
theorem xm_190 : xgt 1524 = some (.code ⟨"TwoAlikeModel", "mend", "(III)I"⟩ prog_14_method_17_code 4 (some .int)) := rfl
set_option maxRecDepth 100000 in
theorem xm_191 : xgt 1544 = some (.code ⟨"TwoAlikeModel", "seenWith", "(II)I"⟩ prog_14_method_18_code 2 (some .int)) := rfl
set_option maxRecDepth 100000 in
theorem xm_192 : xgt 1541 = some (.code ⟨"TwoAlikeModel", "seenOf", "(I)I"⟩ prog_14_method_19_code 2 (some .int)) := rfl
set_option maxRecDepth 100000 in
theorem xm_193 : xgt 1548 = some (.code ⟨"TwoAlikeModel", "minutesOf", "(I)I"⟩ prog_14_method_20_code 4 (some .int)) := rfl
set_option maxRecDepth 100000 in
theorem xm_194 : xgt 1537 = some (.code ⟨"TwoAlikeModel", "ofPerson", "(II)I"⟩ prog_14_method_21_code 3 (some .int)) := rfl
set_option maxRecDepth 100000 in
theorem xm_195 : xgt 1533 = some (.code ⟨"TwoAlikeModel", "of", "(II)I"⟩ prog_14_method_22_code 3 (some .int)) := rfl
set_option maxRecDepth 100000 in
theorem xm_196 : xgt 1555 = some (.code ⟨"TwoAlikeModel", "feed", "(I)I"⟩ prog_14_method_23_code 2 (some .int)) := rfl
set_option maxRecDepth 100000 in
theorem xm_197 : xgt 1592 = some (.code ⟨"TwoAlikeModel", "byteAt", "()I"⟩ prog_14_method_24_code 1 (some .int)) := rfl
set_option maxRecDepth 100000 in
theorem xm_198 : xgt 1596 = some (.code ⟨"TwoAlikeModel", "wrong", "()I"⟩ prog_14_method_25_code 1 (some .int)) := rfl
set_option maxRecDepth 100000 in
theorem xm_199 : xgt 1600 = some (.code ⟨"TwoAlikeModel", "takes", "(I)Z"⟩ prog_14_method_26_code 2 (some .boolean)) := rfl
set_option maxRecDepth 100000 in
theorem xm_200 : xgt 1568 = some (.code ⟨"TwoAlikeModel", "either", "()I"⟩ prog_14_method_27_code 3 (some .int)) := rfl
set_option maxRecDepth 100000 in
theorem xm_201 : xgt 1572 = some (.code ⟨"TwoAlikeModel", "both", "()I"⟩ prog_14_method_28_code 3 (some .int)) := rfl
set_option maxRecDepth 100000 in
theorem xm_202 : xgt 1576 = some (.code ⟨"TwoAlikeModel", "compared", "()I"⟩ prog_14_method_29_code 4 (some .int)) := rfl
set_option maxRecDepth 100000 in
theorem xm_203 : xgt 1580 = some (.code ⟨"TwoAlikeModel", "sums", "()I"⟩ prog_14_method_30_code 4 (some .int)) := rfl
set_option maxRecDepth 100000 in
theorem xm_204 : xgt 1584 = some (.code ⟨"TwoAlikeModel", "product", "()I"⟩ prog_14_method_31_code 4 (some .int)) := rfl
set_option maxRecDepth 100000 in
theorem xm_205 : xgt 1603 = some (.code ⟨"TwoAlikeModel", "nameOf", "(I)I"⟩ prog_14_method_32_code 1 (some .int)) := rfl
set_option maxRecDepth 100000 in
theorem xm_206 : xgt 1588 = some (.code ⟨"TwoAlikeModel", "one", "()I"⟩ prog_14_method_33_code 5 (some .int)) := rfl
set_option maxRecDepth 100000 in
theorem xm_207 : xgt 1564 = some (.code ⟨"TwoAlikeModel", "workOut", "(II)I"⟩ prog_14_method_34_code 8 (some .int)) := rfl
set_option maxRecDepth 100000 in
theorem xm_208 : xgt 1560 = some (.code ⟨"TwoAlikeModel", "law", "()I"⟩ prog_14_method_35_code 4 (some .int)) := rfl
set_option maxRecDepth 100000 in
theorem xm_209 : xgt 1622 = some (.code ⟨"TwoAlikeModel", "areAlike", "(IIII)Z"⟩ prog_14_method_36_code 6 (some .boolean)) := rfl
set_option maxRecDepth 100000 in
theorem xm_210 : xgt 1618 = some (.code ⟨"TwoAlikeModel", "hatBit", "(I)I"⟩ prog_14_method_37_code 1 (some .int)) := rfl
set_option maxRecDepth 100000 in
theorem xm_211 : xgt 1615 = some (.code ⟨"TwoAlikeModel", "isAlike", "(II)Z"⟩ prog_14_method_38_code 3 (some .boolean)) := rfl
set_option maxRecDepth 100000 in
theorem xm_212 : xgt 1607 = some (.code ⟨"TwoAlikeModel", "alike", "(I)I"⟩ prog_14_method_39_code 2 (some .int)) := rfl
set_option maxRecDepth 100000 in
theorem xm_213 : xgt 1637 = some (.code ⟨"TwoAlikeModel", "asksLikes", "()V"⟩ prog_14_method_40_code 3 none) := rfl
set_option maxRecDepth 100000 in
theorem xm_214 : xgt 1665 = some (.code ⟨"TwoAlikeModel", "isShut", "(III)Z"⟩ prog_14_method_41_code 5 (some .boolean)) := rfl
set_option maxRecDepth 100000 in
theorem xm_215 : xgt 1645 = some (.code ⟨"TwoAlikeModel", "begins1", "(III)I"⟩ prog_14_method_42_code 8 (some .int)) := rfl
set_option maxRecDepth 100000 in
theorem xm_216 : xgt 1641 = some (.code ⟨"TwoAlikeModel", "plansOne", "(I)V"⟩ prog_14_method_43_code 6 none) := rfl
set_option maxRecDepth 100000 in
theorem xm_217 : xgt 1633 = some (.code ⟨"TwoAlikeModel", "plansNow", "(I)V"⟩ prog_14_method_44_code 3 none) := rfl
set_option maxRecDepth 100000 in
theorem xm_218 : xgt 1673 = some (.code ⟨"TwoAlikeModel", "costOf", "(I)I"⟩ prog_14_method_45_code 2 (some .int)) := rfl
set_option maxRecDepth 100000 in
theorem xm_219 : xgt 1669 = some (.code ⟨"TwoAlikeModel", "allWaited", "()I"⟩ prog_14_method_46_code 3 (some .int)) := rfl
set_option maxRecDepth 100000 in
theorem xm_220 : xgt 1629 = some (.code ⟨"TwoAlikeModel", "plan", "()I"⟩ prog_14_method_47_code 3 (some .int)) := rfl
set_option maxRecDepth 100000 in
theorem xm_221 : xgt 1677 = some (.code ⟨"TwoAlikeModel", "where", "(II)I"⟩ prog_14_method_48_code 3 (some .int)) := rfl
set_option maxRecDepth 100000 in
theorem xm_222 : xgt 1682 = some (.code ⟨"TwoAlikeModel", "waited", "(II)I"⟩ prog_14_method_49_code 3 (some .int)) := rfl
set_option maxRecDepth 100000 in
theorem xm_223 : xgt 1690 = some (.code ⟨"TwoAlikeModel", "ordersOn", "(III)V"⟩ prog_14_method_50_code 5 none) := rfl
set_option maxRecDepth 100000 in
theorem xm_224 : xgt 1686 = some (.code ⟨"TwoAlikeModel", "best", "(I)I"⟩ prog_14_method_51_code 2 (some .int)) := rfl
set_option maxRecDepth 100000 in
theorem xm_225 : xgt 1694 = some (.code ⟨"TwoAlikeModel", "bars", "(I)I"⟩ prog_14_method_52_code 5 (some .int)) := rfl
set_option maxRecDepth 100000 in
theorem xm_226 : xgt 1698 = some (.code ⟨"TwoAlikeModel", "led", "(II)I"⟩ prog_14_method_53_code 3 (some .int)) := rfl
set_option maxRecDepth 100000 in
theorem xm_227 : xgt 1709 = some (.code ⟨"TwoAlikeModel", "clashAt", "(IIII)I"⟩ prog_14_method_54_code 4 (some .int)) := rfl
set_option maxRecDepth 100000 in
theorem xm_228 : xgt 1717 = some (.code ⟨"TwoAlikeModel", "mayWear", "(II)Z"⟩ prog_14_method_55_code 3 (some .boolean)) := rfl
set_option maxRecDepth 100000 in
theorem xm_229 : xgt 1706 = some (.code ⟨"TwoAlikeModel", "asksHats", "()V"⟩ prog_14_method_56_code 6 none) := rfl
set_option maxRecDepth 100000 in
theorem xm_230 : xgt 1713 = some (.code ⟨"TwoAlikeModel", "wearsFrom", "(II)Z"⟩ prog_14_method_57_code 6 (some .boolean)) := rfl
set_option maxRecDepth 100000 in
theorem xm_231 : xgt 1702 = some (.code ⟨"TwoAlikeModel", "hats", "(I)I"⟩ prog_14_method_58_code 3 (some .int)) := rfl
set_option maxRecDepth 100000 in
theorem xm_232 : xgt 1721 = some (.code ⟨"TwoAlikeModel", "needs", "()I"⟩ prog_14_method_59_code 3 (some .int)) := rfl
set_option maxRecDepth 100000 in
theorem xm_233 : xgt 1729 = some (.code ⟨"TwoAlikeModel", "isKind", "(I)Z"⟩ prog_14_method_60_code 3 (some .boolean)) := rfl
set_option maxRecDepth 100000 in
theorem xm_234 : xgt 1725 = some (.code ⟨"TwoAlikeModel", "kinds", "(I)I"⟩ prog_14_method_61_code 4 (some .int)) := rfl
set_option maxRecDepth 100000 in
theorem xm_235 : xgt 1733 = some (.code ⟨"TwoAlikeModel", "pass", "(I)I"⟩ prog_14_method_62_code 5 (some .int)) := rfl
set_option maxRecDepth 100000 in
theorem xm_236 : xgt 1737 = some (.code ⟨"TwoAlikeModel", "go", "(III)I"⟩ prog_14_method_63_code 5 (some .int)) := rfl
set_option maxRecDepth 100000 in
theorem xm_237 : xgt 1743 = some (.code ⟨"TwoAlikeModel", "judge", "(I)I"⟩ prog_14_method_64_code 6 (some .int)) := rfl
set_option maxRecDepth 100000 in
theorem xm_238 : xgt 1748 = some (.code ⟨"TwoAlikeModel", "watch", "(II)I"⟩ prog_14_method_65_code 8 (some .int)) := rfl
set_option maxRecDepth 100000 in
theorem xm_239 : xgt 1752 = some (.code ⟨"TwoAlikeModel", "sight", "(II)I"⟩ prog_14_method_66_code 3 (some .int)) := rfl
set_option maxRecDepth 100000 in
theorem xm_240 : xgt 1760 = some (.code ⟨"TwoAlikeModel", "doBar", "(III)Z"⟩ prog_14_method_67_code 6 (some .boolean)) := rfl
set_option maxRecDepth 100000 in
theorem xm_241 : xgt 1764 = some (.code ⟨"TwoAlikeModel", "isOne", "(I)Z"⟩ prog_14_method_68_code 3 (some .boolean)) := rfl
set_option maxRecDepth 100000 in
theorem xm_242 : xgt 1756 = some (.code ⟨"TwoAlikeModel", "atLeast", "(I)I"⟩ prog_14_method_69_code 5 (some .int)) := rfl
set_option maxRecDepth 100000 in
theorem xm_243 : xgt 1776 = some (.code ⟨"TwoAlikeModel", "canBe", "(II)Z"⟩ prog_14_method_70_code 4 (some .boolean)) := rfl
set_option maxRecDepth 100000 in
theorem xm_244 : xgt 1772 = some (.code ⟨"TwoAlikeModel", "whoIs", "(I)I"⟩ prog_14_method_71_code 4 (some .int)) := rfl
set_option maxRecDepth 100000 in
theorem xm_245 : xgt 1768 = some (.code ⟨"TwoAlikeModel", "who", "(I)I"⟩ prog_14_method_72_code 2 (some .int)) := rfl
set_option maxRecDepth 100000 in
theorem xm_246 : xgt 1780 = some (.code ⟨"TwoAlikeModel", "gone", "(II)I"⟩ prog_14_method_73_code 6 (some .int)) := rfl
set_option maxRecDepth 100000 in
theorem xm_247 : xgt 1784 = some (.code ⟨"TwoAlikeModel", "months", "(I)I"⟩ prog_14_method_74_code 8 (some .int)) := rfl
set_option maxRecDepth 100000 in
theorem xm_248 : xgt 1789 = some (.code ⟨"TwoAlikeModel", "turn", "()I"⟩ prog_14_method_75_code 2 (some .int)) := rfl
set_option maxRecDepth 100000 in
theorem xm_249 : xgt 1793 = some (.code ⟨"TwoAlikeModel", "image", "()I"⟩ prog_14_method_76_code 2 (some .int)) := rfl
set_option maxRecDepth 100000 in
theorem xm_250 : xgt 1797 = some (.code ⟨"TwoAlikeModel", "back", "()I"⟩ prog_14_method_77_code 2 (some .int)) := rfl
set_option maxRecDepth 100000 in
theorem xm_251 : xgt 1880 = some (.code ⟨"TwoAlikeModel", "allErrands", "()I"⟩ prog_14_method_78_code 3 (some .int)) := rfl
set_option maxRecDepth 100000 in
theorem xm_252 : xgt 1809 = some (.code ⟨"TwoAlikeModel", "isBody", "(I)Z"⟩ prog_14_method_79_code 2 (some .boolean)) := rfl
set_option maxRecDepth 100000 in
theorem xm_253 : xgt 1869 = some (.code ⟨"TwoAlikeModel", "kindOf", "(I)I"⟩ prog_14_method_80_code 2 (some .int)) := rfl
set_option maxRecDepth 100000 in
theorem xm_254 : xgt 1801 = some (.code ⟨"TwoAlikeModel", "body", "(I)I"⟩ prog_14_method_81_code 2 (some .int)) := rfl
set_option maxRecDepth 100000 in
theorem xm_255 : xgt 1872 = some (.code ⟨"TwoAlikeModel", "above", "(I)I"⟩ prog_14_method_82_code 1 (some .int)) := rfl
set_option maxRecDepth 100000 in
theorem xm_256 : xgt 1817 = some (.code ⟨"TwoAlikeModel", "begins", "(I)V"⟩ prog_14_method_83_code 2 none) := rfl
set_option maxRecDepth 100000 in
theorem xm_257 : xgt 1813 = some (.code ⟨"TwoAlikeModel", "looksAs", "(II)I"⟩ prog_14_method_84_code 3 (some .int)) := rfl
set_option maxRecDepth 100000 in
theorem xm_258 : xgt 1821 = some (.code ⟨"TwoAlikeModel", "walksAs", "(II)I"⟩ prog_14_method_85_code 4 (some .int)) := rfl
set_option maxRecDepth 100000 in
theorem xm_259 : xgt 1825 = some (.code ⟨"TwoAlikeModel", "waitsAs", "(II)I"⟩ prog_14_method_86_code 4 (some .int)) := rfl
set_option maxRecDepth 100000 in
theorem xm_260 : xgt 1829 = some (.code ⟨"TwoAlikeModel", "tellsAs", "(II)I"⟩ prog_14_method_87_code 4 (some .int)) := rfl
set_option maxRecDepth 100000 in
theorem xm_261 : xgt 1805 = some (.code ⟨"TwoAlikeModel", "act", "(III)I"⟩ prog_14_method_88_code 4 (some .int)) := rfl
set_option maxRecDepth 100000 in
theorem xm_262 : xgt 1833 = some (.code ⟨"TwoAlikeModel", "trace", "(I)I"⟩ prog_14_method_89_code 2 (some .int)) := rfl
set_option maxRecDepth 100000 in
theorem xm_263 : xgt 1497 = some (.code ⟨"TwoAlikeModel", "isShelf", "(I)Z"⟩ prog_14_method_90_code 1 (some .boolean)) := rfl
set_option maxRecDepth 100000 in
theorem xm_264 : xgt 1837 = some (.code ⟨"TwoAlikeModel", "keep", "(II)I"⟩ prog_14_method_91_code 3 (some .int)) := rfl
set_option maxRecDepth 100000 in
theorem xm_265 : xgt 1841 = some (.code ⟨"TwoAlikeModel", "row", "(III)I"⟩ prog_14_method_92_code 5 (some .int)) := rfl
set_option maxRecDepth 100000 in
theorem xm_266 : xgt 1849 = some (.code ⟨"TwoAlikeModel", "refusal", "(II)I"⟩ prog_14_method_93_code 3 (some .int)) := rfl
set_option maxRecDepth 100000 in
theorem xm_267 : xgt 1852 = some (.code ⟨"TwoAlikeModel", "asSort", "(IJ)J"⟩ prog_14_method_94_code 3 (some .long)) := rfl
set_option maxRecDepth 100000 in
theorem xm_268 : xgt 1845 = some (.code ⟨"TwoAlikeModel", "put", "(IIJ)I"⟩ prog_14_method_95_code 6 (some .int)) := rfl
set_option maxRecDepth 100000 in
theorem xm_269 : xgt 1856 = some (.code ⟨"TwoAlikeModel", "element", "(II)J"⟩ prog_14_method_96_code 3 (some .long)) := rfl
set_option maxRecDepth 100000 in
theorem xm_270 : xgt 1861 = some (.code ⟨"TwoAlikeModel", "shift", "(IIIII)I"⟩ prog_14_method_97_code 7 (some .int)) := rfl
set_option maxRecDepth 100000 in
theorem xm_271 : xgt 1865 = some (.code ⟨"TwoAlikeModel", "taken", "(II)I"⟩ prog_14_method_98_code 4 (some .int)) := rfl
set_option maxRecDepth 100000 in
theorem xm_272 : xgt 1876 = some (.code ⟨"TwoAlikeModel", "count", "(I)I"⟩ prog_14_method_99_code 2 (some .int)) := rfl
set_option maxRecDepth 100000 in
theorem xm_273 : xgt 799 = some (.code ⟨"java/lang/Integer", "bitCount", "(I)I"⟩ prog_15_method_49_code 1 (some .int)) := rfl
set_option maxRecDepth 100000 in
theorem xm_274 : xgt 808 = some (.code ⟨"java/lang/Math", "max", "(II)I"⟩ prog_16_method_65_code 2 (some .int)) := rfl
set_option maxRecDepth 100000 in
theorem xm_275 : xgt 805 = some (.code ⟨"java/lang/Math", "min", "(II)I"⟩ prog_16_method_69_code 2 (some .int)) := rfl
def xml : List xQ → List xNt → Prop
  | [_], [_] => True
  | q :: a, y :: b => xgt y.2.2.2.1 = some (.code y.1 y.2.1 q.2.1 y.2.2.1) ∧ xml a b
  | _, _ => False
set_option maxRecDepth 100000 in
theorem xm_all : xml xM xN := ⟨xm_0, xm_1, xm_2, xm_3, xm_4, xm_5, xm_6, xm_7, xm_8, xm_9, xm_10, xm_11, xm_12, xm_13, xm_14, xm_15, xm_16, xm_17, xm_18, xm_19, xm_20, xm_21, xm_22, xm_23, xm_24, xm_25, xm_26, xm_27, xm_28, xm_29, xm_30, xm_31, xm_32, xm_33, xm_34, xm_35, xm_36, xm_37, xm_38, xm_39, xm_40, xm_41, xm_42, xm_43, xm_44, xm_45, xm_46, xm_47, xm_48, xm_49, xm_50, xm_51, xm_52, xm_53, xm_54, xm_55, xm_56, xm_57, xm_58, xm_59, xm_60, xm_61, xm_62, xm_63, xm_64, xm_65, xm_66, xm_67, xm_68, xm_69, xm_70, xm_71, xm_72, xm_73, xm_74, xm_75, xm_76, xm_77, xm_78, xm_79, xm_80, xm_81, xm_82, xm_83, xm_84, xm_85, xm_86, xm_87, xm_88, xm_89, xm_90, xm_91, xm_92, xm_93, xm_94, xm_95, xm_96, xm_97, xm_98, xm_99, xm_100, xm_101, xm_102, xm_103, xm_104, xm_105, xm_106, xm_107, xm_108, xm_109, xm_110, xm_111, xm_112, xm_113, xm_114, xm_115, xm_116, xm_117, xm_118, xm_119, xm_120, xm_121, xm_122, xm_123, xm_124, xm_125, xm_126, xm_127, xm_128, xm_129, xm_130, xm_131, xm_132, xm_133, xm_134, xm_135, xm_136, xm_137, xm_138, xm_139, xm_140, xm_141, xm_142, xm_143, xm_144, xm_145, xm_146, xm_147, xm_148, xm_149, xm_150, xm_151, xm_152, xm_153, xm_154, xm_155, xm_156, xm_157, xm_158, xm_159, xm_160, xm_161, xm_162, xm_163, xm_164, xm_165, xm_166, xm_167, xm_168, xm_169, xm_170, xm_171, xm_172, xm_173, xm_174, xm_175, xm_176, xm_177, xm_178, xm_179, xm_180, xm_181, xm_182, xm_183, xm_184, xm_185, xm_186, xm_187, xm_188, xm_189, xm_190, xm_191, xm_192, xm_193, xm_194, xm_195, xm_196, xm_197, xm_198, xm_199, xm_200, xm_201, xm_202, xm_203, xm_204, xm_205, xm_206, xm_207, xm_208, xm_209, xm_210, xm_211, xm_212, xm_213, xm_214, xm_215, xm_216, xm_217, xm_218, xm_219, xm_220, xm_221, xm_222, xm_223, xm_224, xm_225, xm_226, xm_227, xm_228, xm_229, xm_230, xm_231, xm_232, xm_233, xm_234, xm_235, xm_236, xm_237, xm_238, xm_239, xm_240, xm_241, xm_242, xm_243, xm_244, xm_245, xm_246, xm_247, xm_248, xm_249, xm_250, xm_251, xm_252, xm_253, xm_254, xm_255, xm_256, xm_257, xm_258, xm_259, xm_260, xm_261, xm_262, xm_263, xm_264, xm_265, xm_266, xm_267, xm_268, xm_269, xm_270, xm_271, xm_272, xm_273, xm_274, xm_275, trivial⟩
def xdl : List xQ → List xNt → Prop
  | q :: a, y :: b => xdc y.2.1 q.2.2.2.2 = true ∧ xdl a b
  | [], [] => True
  | _, _ => False
set_option maxRecDepth 100000 in
theorem xd_all : xdl xM xN := ⟨xd_0, xd_1, xd_2, xd_3, xd_4, xd_5, xd_6, xd_7, xd_8, xd_9, xd_10, xd_11, xd_12, xd_13, xd_14, xd_15, xd_16, xd_17, xd_18, xd_19, xd_20, xd_21, xd_22, xd_23, xd_24, xd_25, xd_26, xd_27, xd_28, xd_29, xd_30, xd_31, xd_32, xd_33, xd_34, xd_35, xd_36, xd_37, xd_38, xd_39, xd_40, xd_41, xd_42, xd_43, xd_44, xd_45, xd_46, xd_47, xd_48, xd_49, xd_50, xd_51, xd_52, xd_53, xd_54, xd_55, xd_56, xd_57, xd_58, xd_59, xd_60, xd_61, xd_62, xd_63, xd_64, xd_65, xd_66, xd_67, xd_68, xd_69, xd_70, xd_71, xd_72, xd_73, xd_74, xd_75, xd_76, xd_77, xd_78, xd_79, xd_80, xd_81, xd_82, xd_83, xd_84, xd_85, xd_86, xd_87, xd_88, xd_89, xd_90, xd_91, xd_92, xd_93, xd_94, xd_95, xd_96, xd_97, xd_98, xd_99, xd_100, xd_101, xd_102, xd_103, xd_104, xd_105, xd_106, xd_107, xd_108, xd_109, xd_110, xd_111, xd_112, xd_113, xd_114, xd_115, xd_116, xd_117, xd_118, xd_119, xd_120, xd_121, xd_122, xd_123, xd_124, xd_125, xd_126, xd_127, xd_128, xd_129, xd_130, xd_131, xd_132, xd_133, xd_134, xd_135, xd_136, xd_137, xd_138, xd_139, xd_140, xd_141, xd_142, xd_143, xd_144, xd_145, xd_146, xd_147, xd_148, xd_149, xd_150, xd_151, xd_152, xd_153, xd_154, xd_155, xd_156, xd_157, xd_158, xd_159, xd_160, xd_161, xd_162, xd_163, xd_164, xd_165, xd_166, xd_167, xd_168, xd_169, xd_170, xd_171, xd_172, xd_173, xd_174, xd_175, xd_176, xd_177, xd_178, xd_179, xd_180, xd_181, xd_182, xd_183, xd_184, xd_185, xd_186, xd_187, xd_188, xd_189, xd_190, xd_191, xd_192, xd_193, xd_194, xd_195, xd_196, xd_197, xd_198, xd_199, xd_200, xd_201, xd_202, xd_203, xd_204, xd_205, xd_206, xd_207, xd_208, xd_209, xd_210, xd_211, xd_212, xd_213, xd_214, xd_215, xd_216, xd_217, xd_218, xd_219, xd_220, xd_221, xd_222, xd_223, xd_224, xd_225, xd_226, xd_227, xd_228, xd_229, xd_230, xd_231, xd_232, xd_233, xd_234, xd_235, xd_236, xd_237, xd_238, xd_239, xd_240, xd_241, xd_242, xd_243, xd_244, xd_245, xd_246, xd_247, xd_248, xd_249, xd_250, xd_251, xd_252, xd_253, xd_254, xd_255, xd_256, xd_257, xd_258, xd_259, xd_260, xd_261, xd_262, xd_263, xd_264, xd_265, xd_266, xd_267, xd_268, xd_269, xd_270, xd_271, xd_272, xd_273, xd_274, xd_275, xd_276, trivial⟩
end
