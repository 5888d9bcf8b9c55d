/-! decoding a byte behind the other: facts by opcode -/
theorem fb_bind {α β : Type} {x : Jvm.ClassFile.Decoder α} {f : α → Jvm.ClassFile.Decoder β} {b : ByteArray} {s s2 : Nat} {a : α} (h : x b s = .ok (a, s2)) : (x >>= f) b s = f a b s2 := by
  show Except.bind (x b s) _ = _
  rw [h]
  rfl
theorem fb_map {α β : Type} {x : Jvm.ClassFile.Decoder α} {f : α → β} {b : ByteArray} {s s2 : Nat} {a : α} (h : x b s = .ok (a, s2)) : (f <$> x) b s = .ok (f a, s2) := by
  show Except.bind (x b s) _ = _
  rw [h]
  rfl
abbrev fU1 : Jvm.ClassFile.Decoder Nat := Jvm.ClassFile.Reader.u1
abbrev fU2 : Jvm.ClassFile.Decoder Nat := Jvm.ClassFile.Reader.u2
theorem fb_u1 {b : ByteArray} {pc : Nat} {x : UInt8} {r : List UInt8} (h : b.data.toList.drop pc = x :: r) : fU1 b pc = .ok (x.toNat, pc + 1) := by
  have hl : pc < b.data.toList.length := by
    have := congrArg List.length h
    rw [List.length_drop, List.length_cons] at this
    omega
  have hs : pc < b.size := hl
  rw [List.drop_eq_getElem_cons hl] at h
  have hx : b[pc] = x := (List.cons.inj h).1
  rw [← hx]
  show (dite (pc < b.size) _ _ : Jvm.ClassFile.Decoder Nat) b pc = _
  rw [dif_pos hs]
  rfl
theorem fb_u2 {b : ByteArray} {pc : Nat} {x y : UInt8} {r : List UInt8} (h : b.data.toList.drop pc = x :: y :: r) : fU2 b pc = .ok (x.toNat * 256 + y.toNat, pc + 2) := by
  have h2 : b.data.toList.drop (pc + 1) = y :: r := by rw [← List.drop_drop, h]; rfl
  exact (fb_bind (fb_u1 h)).trans ((fb_bind (fb_u1 h2)).trans rfl)
theorem fb_dec {b : ByteArray} {pc n : Nat} {i : Instr} (h : Jvm.ClassFile.Decoder.instr pc b pc = .ok (i, pc + n)) : decode b pc = .ok (i, n) := by
  unfold decode
  show Except.bind (Jvm.ClassFile.Decoder.instr pc b pc) _ = _
  rw [h]
  show Except.ok (i, pc + n - pc) = _
  rw [Nat.add_sub_cancel_left]
theorem fb_dr {b : ByteArray} {pc : Nat} {x : UInt8} {r : List UInt8} (h : b.data.toList.drop pc = x :: r) : b.data.toList.drop (pc + 1) = r := by rw [← List.drop_drop, h]; rfl
abbrev fP0 (k : Nat) (i : Instr) : Prop := ∀ (b : ByteArray) (pc : Nat), fU1 b pc = .ok (k, pc + 1) → decode b pc = .ok (i, 1)
abbrev fP1 (k : Nat) (f : Nat → Instr) : Prop := ∀ (b : ByteArray) (pc a : Nat), fU1 b pc = .ok (k, pc + 1) → fU1 b (pc + 1) = .ok (a, pc + 2) → decode b pc = .ok (f a, 2)
abbrev fP2 (k : Nat) (f : Nat → Instr) : Prop := ∀ (b : ByteArray) (pc a : Nat), fU1 b pc = .ok (k, pc + 1) → fU2 b (pc + 1) = .ok (a, pc + 3) → decode b pc = .ok (f a, 3)
abbrev fP3 (k : Nat) (f : Int → Instr) : Prop := ∀ (b : ByteArray) (pc a : Nat), fU1 b pc = .ok (k, pc + 1) → fU2 b (pc + 1) = .ok (a, pc + 3) → decode b pc = .ok (f (Jvm.ClassFile.Reader.signed 16 a), 3)
theorem fq_42 : fP0 42 (.aload_n 0) := fun _ _ h => fb_dec ((fb_bind h).trans rfl)
theorem fq_27 : fP0 27 (.iload_n 1) := fun _ _ h => fb_dec ((fb_bind h).trans rfl)
theorem fq_28 : fP0 28 (.iload_n 2) := fun _ _ h => fb_dec ((fb_bind h).trans rfl)
theorem fq_29 : fP0 29 (.iload_n 3) := fun _ _ h => fb_dec ((fb_bind h).trans rfl)
theorem fq_172 : fP0 172 (.ireturn) := fun _ _ h => fb_dec ((fb_bind h).trans rfl)
theorem fq_4 : fP0 4 (.iconst (1)) := fun _ _ h => fb_dec ((fb_bind h).trans rfl)
theorem fq_3 : fP0 3 (.iconst (0)) := fun _ _ h => fb_dec ((fb_bind h).trans rfl)
theorem fq_46 : fP0 46 (.iaload) := fun _ _ h => fb_dec ((fb_bind h).trans rfl)
theorem fq_96 : fP0 96 (.iadd) := fun _ _ h => fb_dec ((fb_bind h).trans rfl)
theorem fq_5 : fP0 5 (.iconst (2)) := fun _ _ h => fb_dec ((fb_bind h).trans rfl)
theorem fq_2 : fP0 2 (.iconst (-1)) := fun _ _ h => fb_dec ((fb_bind h).trans rfl)
theorem fq_6 : fP0 6 (.iconst (3)) := fun _ _ h => fb_dec ((fb_bind h).trans rfl)
theorem fq_7 : fP0 7 (.iconst (4)) := fun _ _ h => fb_dec ((fb_bind h).trans rfl)
theorem fq_8 : fP0 8 (.iconst (5)) := fun _ _ h => fb_dec ((fb_bind h).trans rfl)
theorem fq_9 : fP0 9 (.lconst 0) := fun _ _ h => fb_dec ((fb_bind h).trans rfl)
theorem fq_10 : fP0 10 (.lconst 1) := fun _ _ h => fb_dec ((fb_bind h).trans rfl)
theorem fq_26 : fP0 26 (.iload_n 0) := fun _ _ h => fb_dec ((fb_bind h).trans rfl)
theorem fq_30 : fP0 30 (.lload_n 0) := fun _ _ h => fb_dec ((fb_bind h).trans rfl)
theorem fq_31 : fP0 31 (.lload_n 1) := fun _ _ h => fb_dec ((fb_bind h).trans rfl)
theorem fq_32 : fP0 32 (.lload_n 2) := fun _ _ h => fb_dec ((fb_bind h).trans rfl)
theorem fq_33 : fP0 33 (.lload_n 3) := fun _ _ h => fb_dec ((fb_bind h).trans rfl)
theorem fq_43 : fP0 43 (.aload_n 1) := fun _ _ h => fb_dec ((fb_bind h).trans rfl)
theorem fq_44 : fP0 44 (.aload_n 2) := fun _ _ h => fb_dec ((fb_bind h).trans rfl)
theorem fq_45 : fP0 45 (.aload_n 3) := fun _ _ h => fb_dec ((fb_bind h).trans rfl)
theorem fq_47 : fP0 47 (.laload) := fun _ _ h => fb_dec ((fb_bind h).trans rfl)
theorem fq_51 : fP0 51 (.baload) := fun _ _ h => fb_dec ((fb_bind h).trans rfl)
theorem fq_59 : fP0 59 (.istore_n 0) := fun _ _ h => fb_dec ((fb_bind h).trans rfl)
theorem fq_60 : fP0 60 (.istore_n 1) := fun _ _ h => fb_dec ((fb_bind h).trans rfl)
theorem fq_61 : fP0 61 (.istore_n 2) := fun _ _ h => fb_dec ((fb_bind h).trans rfl)
theorem fq_62 : fP0 62 (.istore_n 3) := fun _ _ h => fb_dec ((fb_bind h).trans rfl)
theorem fq_63 : fP0 63 (.lstore_n 0) := fun _ _ h => fb_dec ((fb_bind h).trans rfl)
theorem fq_64 : fP0 64 (.lstore_n 1) := fun _ _ h => fb_dec ((fb_bind h).trans rfl)
theorem fq_65 : fP0 65 (.lstore_n 2) := fun _ _ h => fb_dec ((fb_bind h).trans rfl)
theorem fq_66 : fP0 66 (.lstore_n 3) := fun _ _ h => fb_dec ((fb_bind h).trans rfl)
theorem fq_75 : fP0 75 (.astore_n 0) := fun _ _ h => fb_dec ((fb_bind h).trans rfl)
theorem fq_76 : fP0 76 (.astore_n 1) := fun _ _ h => fb_dec ((fb_bind h).trans rfl)
theorem fq_77 : fP0 77 (.astore_n 2) := fun _ _ h => fb_dec ((fb_bind h).trans rfl)
theorem fq_78 : fP0 78 (.astore_n 3) := fun _ _ h => fb_dec ((fb_bind h).trans rfl)
theorem fq_79 : fP0 79 (.iastore) := fun _ _ h => fb_dec ((fb_bind h).trans rfl)
theorem fq_80 : fP0 80 (.lastore) := fun _ _ h => fb_dec ((fb_bind h).trans rfl)
theorem fq_84 : fP0 84 (.bastore) := fun _ _ h => fb_dec ((fb_bind h).trans rfl)
theorem fq_87 : fP0 87 (.pop) := fun _ _ h => fb_dec ((fb_bind h).trans rfl)
theorem fq_88 : fP0 88 (.pop2) := fun _ _ h => fb_dec ((fb_bind h).trans rfl)
theorem fq_89 : fP0 89 (.dup) := fun _ _ h => fb_dec ((fb_bind h).trans rfl)
theorem fq_92 : fP0 92 (.dup2) := fun _ _ h => fb_dec ((fb_bind h).trans rfl)
theorem fq_97 : fP0 97 (.ladd) := fun _ _ h => fb_dec ((fb_bind h).trans rfl)
theorem fq_100 : fP0 100 (.isub) := fun _ _ h => fb_dec ((fb_bind h).trans rfl)
theorem fq_101 : fP0 101 (.lsub) := fun _ _ h => fb_dec ((fb_bind h).trans rfl)
theorem fq_104 : fP0 104 (.imul) := fun _ _ h => fb_dec ((fb_bind h).trans rfl)
theorem fq_108 : fP0 108 (.idiv) := fun _ _ h => fb_dec ((fb_bind h).trans rfl)
theorem fq_112 : fP0 112 (.irem) := fun _ _ h => fb_dec ((fb_bind h).trans rfl)
theorem fq_116 : fP0 116 (.ineg) := fun _ _ h => fb_dec ((fb_bind h).trans rfl)
theorem fq_120 : fP0 120 (.ishl) := fun _ _ h => fb_dec ((fb_bind h).trans rfl)
theorem fq_121 : fP0 121 (.lshl) := fun _ _ h => fb_dec ((fb_bind h).trans rfl)
theorem fq_122 : fP0 122 (.ishr) := fun _ _ h => fb_dec ((fb_bind h).trans rfl)
theorem fq_123 : fP0 123 (.lshr) := fun _ _ h => fb_dec ((fb_bind h).trans rfl)
theorem fq_124 : fP0 124 (.iushr) := fun _ _ h => fb_dec ((fb_bind h).trans rfl)
theorem fq_126 : fP0 126 (.iand) := fun _ _ h => fb_dec ((fb_bind h).trans rfl)
theorem fq_127 : fP0 127 (.land) := fun _ _ h => fb_dec ((fb_bind h).trans rfl)
theorem fq_128 : fP0 128 (.ior) := fun _ _ h => fb_dec ((fb_bind h).trans rfl)
theorem fq_129 : fP0 129 (.lor) := fun _ _ h => fb_dec ((fb_bind h).trans rfl)
theorem fq_130 : fP0 130 (.ixor) := fun _ _ h => fb_dec ((fb_bind h).trans rfl)
theorem fq_131 : fP0 131 (.lxor) := fun _ _ h => fb_dec ((fb_bind h).trans rfl)
theorem fq_133 : fP0 133 (.i2l) := fun _ _ h => fb_dec ((fb_bind h).trans rfl)
theorem fq_136 : fP0 136 (.l2i) := fun _ _ h => fb_dec ((fb_bind h).trans rfl)
theorem fq_145 : fP0 145 (.i2b) := fun _ _ h => fb_dec ((fb_bind h).trans rfl)
theorem fq_147 : fP0 147 (.i2s) := fun _ _ h => fb_dec ((fb_bind h).trans rfl)
theorem fq_148 : fP0 148 (.lcmp) := fun _ _ h => fb_dec ((fb_bind h).trans rfl)
theorem fq_173 : fP0 173 (.lreturn) := fun _ _ h => fb_dec ((fb_bind h).trans rfl)
theorem fq_177 : fP0 177 (.return_) := fun _ _ h => fb_dec ((fb_bind h).trans rfl)
theorem fq_190 : fP0 190 (.arraylength) := fun _ _ h => fb_dec ((fb_bind h).trans rfl)
theorem fq_21 : fP1 21 .iload := fun _ _ _ h h2 => fb_dec ((fb_bind h).trans ((fb_bind h2).trans rfl))
theorem fq_54 : fP1 54 .istore := fun _ _ _ h h2 => fb_dec ((fb_bind h).trans ((fb_bind h2).trans rfl))
theorem fq_18 : fP1 18 .ldc := fun _ _ _ h h2 => fb_dec ((fb_bind h).trans ((fb_bind h2).trans rfl))
theorem fq_22 : fP1 22 .lload := fun _ _ _ h h2 => fb_dec ((fb_bind h).trans ((fb_bind h2).trans rfl))
theorem fq_55 : fP1 55 .lstore := fun _ _ _ h h2 => fb_dec ((fb_bind h).trans ((fb_bind h2).trans rfl))
theorem fq_180 : fP2 180 .getfield := fun _ _ _ h h2 => fb_dec ((fb_bind h).trans ((fb_bind h2).trans rfl))
theorem fq_182 : fP2 182 .invokevirtual := fun _ _ _ h h2 => fb_dec ((fb_bind h).trans ((fb_bind h2).trans rfl))
theorem fq_181 : fP2 181 .putfield := fun _ _ _ h h2 => fb_dec ((fb_bind h).trans ((fb_bind h2).trans rfl))
theorem fq_184 : fP2 184 .invokestatic := fun _ _ _ h h2 => fb_dec ((fb_bind h).trans ((fb_bind h2).trans rfl))
theorem fq_183 : fP2 183 .invokespecial := fun _ _ _ h h2 => fb_dec ((fb_bind h).trans ((fb_bind h2).trans rfl))
theorem fq_187 : fP2 187 .new := fun _ _ _ h h2 => fb_dec ((fb_bind h).trans ((fb_bind h2).trans rfl))
theorem fq_178 : fP2 178 .getstatic := fun _ _ _ h h2 => fb_dec ((fb_bind h).trans ((fb_bind h2).trans rfl))
theorem fq_19 : fP2 19 .ldc_w := fun _ _ _ h h2 => fb_dec ((fb_bind h).trans ((fb_bind h2).trans rfl))
theorem fq_20 : fP2 20 .ldc2_w := fun _ _ _ h h2 => fb_dec ((fb_bind h).trans ((fb_bind h2).trans rfl))
theorem fq_167 : fP3 167 (fun o => .goto o) := fun _ _ _ h h2 => fb_dec ((fb_bind h).trans ((fb_bind (fb_map h2)).trans rfl))
theorem fq_17 : fP3 17 (fun o => .sipush o) := fun _ _ _ h h2 => fb_dec ((fb_bind h).trans ((fb_bind (fb_map h2)).trans rfl))
theorem fq_153 : fP3 153 (fun o => .ifCond .eq o) := fun _ _ _ h h2 => fb_dec ((fb_bind h).trans ((fb_bind (fb_map h2)).trans rfl))
theorem fq_154 : fP3 154 (fun o => .ifCond .ne o) := fun _ _ _ h h2 => fb_dec ((fb_bind h).trans ((fb_bind (fb_map h2)).trans rfl))
theorem fq_155 : fP3 155 (fun o => .ifCond .lt o) := fun _ _ _ h h2 => fb_dec ((fb_bind h).trans ((fb_bind (fb_map h2)).trans rfl))
theorem fq_156 : fP3 156 (fun o => .ifCond .ge o) := fun _ _ _ h h2 => fb_dec ((fb_bind h).trans ((fb_bind (fb_map h2)).trans rfl))
theorem fq_157 : fP3 157 (fun o => .ifCond .gt o) := fun _ _ _ h h2 => fb_dec ((fb_bind h).trans ((fb_bind (fb_map h2)).trans rfl))
theorem fq_158 : fP3 158 (fun o => .ifCond .le o) := fun _ _ _ h h2 => fb_dec ((fb_bind h).trans ((fb_bind (fb_map h2)).trans rfl))
theorem fq_159 : fP3 159 (fun o => .if_icmp .eq o) := fun _ _ _ h h2 => fb_dec ((fb_bind h).trans ((fb_bind (fb_map h2)).trans rfl))
theorem fq_160 : fP3 160 (fun o => .if_icmp .ne o) := fun _ _ _ h h2 => fb_dec ((fb_bind h).trans ((fb_bind (fb_map h2)).trans rfl))
theorem fq_161 : fP3 161 (fun o => .if_icmp .lt o) := fun _ _ _ h h2 => fb_dec ((fb_bind h).trans ((fb_bind (fb_map h2)).trans rfl))
theorem fq_162 : fP3 162 (fun o => .if_icmp .ge o) := fun _ _ _ h h2 => fb_dec ((fb_bind h).trans ((fb_bind (fb_map h2)).trans rfl))
theorem fq_163 : fP3 163 (fun o => .if_icmp .gt o) := fun _ _ _ h h2 => fb_dec ((fb_bind h).trans ((fb_bind (fb_map h2)).trans rfl))
theorem fq_164 : fP3 164 (fun o => .if_icmp .le o) := fun _ _ _ h h2 => fb_dec ((fb_bind h).trans ((fb_bind (fb_map h2)).trans rfl))
theorem fq_16 (b : ByteArray) (pc a : Nat) (h : fU1 b pc = .ok (16, pc + 1)) (h2 : fU1 b (pc + 1) = .ok (a, pc + 2)) : decode b pc = .ok (.bipush (Jvm.ClassFile.Reader.signed 8 a), 2) := fb_dec ((fb_bind h).trans ((fb_bind (fb_map h2)).trans rfl))
theorem fq_132 (b : ByteArray) (pc a c : Nat) (h : fU1 b pc = .ok (132, pc + 1)) (h2 : fU1 b (pc + 1) = .ok (a, pc + 2)) (h3 : fU1 b (pc + 2) = .ok (c, pc + 3)) : decode b pc = .ok (.iinc a (Jvm.ClassFile.Reader.signed 8 c), 3) := fb_dec ((fb_bind h).trans ((fb_bind h2).trans ((fb_bind (fb_map h3)).trans rfl)))
/-- the tables -/
def fA0 : List (Nat × Instr) → Prop
  | [] => True
  | q :: r => fP0 q.1 q.2 ∧ fA0 r
def fA1 : List (Nat × (Nat → Instr)) → Prop
  | [] => True
  | q :: r => fP1 q.1 q.2 ∧ fA1 r
def fA2 : List (Nat × (Nat → Instr)) → Prop
  | [] => True
  | q :: r => fP2 q.1 q.2 ∧ fA2 r
def fA3 : List (Nat × (Int → Instr)) → Prop
  | [] => True
  | q :: r => fP3 q.1 q.2 ∧ fA3 r
def fL {α : Type} (k : Nat) : List (Nat × α) → Option α
  | [] => none
  | q :: r => match Nat.beq q.1 k with
    | true => some q.2
    | false => fL k r
theorem fA0_l {k : Nat} {i : Instr} : ∀ {t : List (Nat × Instr)}, fA0 t → fL k t = some i → fP0 k i
  | [], _, h => by cases h
  | q :: r, a, h => by
    have h : (match Nat.beq q.1 k with | true => some q.2 | false => fL k r) = some i := h
    cases e : Nat.beq q.1 k with
    | true => rw [e] at h; cases h; rw [← Nat.eq_of_beq_eq_true e]; exact a.1
    | false => rw [e] at h; exact fA0_l a.2 h
theorem fA1_l {k : Nat} {i : Nat → Instr} : ∀ {t : List (Nat × (Nat → Instr))}, fA1 t → fL k t = some i → fP1 k i
  | [], _, h => by cases h
  | q :: r, a, h => by
    have h : (match Nat.beq q.1 k with | true => some q.2 | false => fL k r) = some i := h
    cases e : Nat.beq q.1 k with
    | true => rw [e] at h; cases h; rw [← Nat.eq_of_beq_eq_true e]; exact a.1
    | false => rw [e] at h; exact fA1_l a.2 h
theorem fA2_l {k : Nat} {i : Nat → Instr} : ∀ {t : List (Nat × (Nat → Instr))}, fA2 t → fL k t = some i → fP2 k i
  | [], _, h => by cases h
  | q :: r, a, h => by
    have h : (match Nat.beq q.1 k with | true => some q.2 | false => fL k r) = some i := h
    cases e : Nat.beq q.1 k with
    | true => rw [e] at h; cases h; rw [← Nat.eq_of_beq_eq_true e]; exact a.1
    | false => rw [e] at h; exact fA2_l a.2 h
theorem fA3_l {k : Nat} {i : Int → Instr} : ∀ {t : List (Nat × (Int → Instr))}, fA3 t → fL k t = some i → fP3 k i
  | [], _, h => by cases h
  | q :: r, a, h => by
    have h : (match Nat.beq q.1 k with | true => some q.2 | false => fL k r) = some i := h
    cases e : Nat.beq q.1 k with
    | true => rw [e] at h; cases h; rw [← Nat.eq_of_beq_eq_true e]; exact a.1
    | false => rw [e] at h; exact fA3_l a.2 h
def fT0 : List (Nat × Instr) := [(42, .aload_n 0), (27, .iload_n 1), (28, .iload_n 2), (29, .iload_n 3), (172, .ireturn), (4, .iconst (1)), (3, .iconst (0)), (46, .iaload), (96, .iadd), (5, .iconst (2)), (2, .iconst (-1)), (6, .iconst (3)), (7, .iconst (4)), (8, .iconst (5)), (9, .lconst 0), (10, .lconst 1), (26, .iload_n 0), (30, .lload_n 0), (31, .lload_n 1), (32, .lload_n 2), (33, .lload_n 3), (43, .aload_n 1), (44, .aload_n 2), (45, .aload_n 3), (47, .laload), (51, .baload), (59, .istore_n 0), (60, .istore_n 1), (61, .istore_n 2), (62, .istore_n 3), (63, .lstore_n 0), (64, .lstore_n 1), (65, .lstore_n 2), (66, .lstore_n 3), (75, .astore_n 0), (76, .astore_n 1), (77, .astore_n 2), (78, .astore_n 3), (79, .iastore), (80, .lastore), (84, .bastore), (87, .pop), (88, .pop2), (89, .dup), (92, .dup2), (97, .ladd), (100, .isub), (101, .lsub), (104, .imul), (108, .idiv), (112, .irem), (116, .ineg), (120, .ishl), (121, .lshl), (122, .ishr), (123, .lshr), (124, .iushr), (126, .iand), (127, .land), (128, .ior), (129, .lor), (130, .ixor), (131, .lxor), (133, .i2l), (136, .l2i), (145, .i2b), (147, .i2s), (148, .lcmp), (173, .lreturn), (177, .return_), (190, .arraylength)]
theorem fT0_ok : fA0 fT0 := ⟨fq_42, fq_27, fq_28, fq_29, fq_172, fq_4, fq_3, fq_46, fq_96, fq_5, fq_2, fq_6, fq_7, fq_8, fq_9, fq_10, fq_26, fq_30, fq_31, fq_32, fq_33, fq_43, fq_44, fq_45, fq_47, fq_51, fq_59, fq_60, fq_61, fq_62, fq_63, fq_64, fq_65, fq_66, fq_75, fq_76, fq_77, fq_78, fq_79, fq_80, fq_84, fq_87, fq_88, fq_89, fq_92, fq_97, fq_100, fq_101, fq_104, fq_108, fq_112, fq_116, fq_120, fq_121, fq_122, fq_123, fq_124, fq_126, fq_127, fq_128, fq_129, fq_130, fq_131, fq_133, fq_136, fq_145, fq_147, fq_148, fq_173, fq_177, fq_190, trivial⟩
def fT1 : List (Nat × (Nat → Instr)) := [(21, .iload), (54, .istore), (18, .ldc), (22, .lload), (55, .lstore)]
theorem fT1_ok : fA1 fT1 := ⟨fq_21, fq_54, fq_18, fq_22, fq_55, trivial⟩
def fT2 : List (Nat × (Nat → Instr)) := [(180, .getfield), (182, .invokevirtual), (181, .putfield), (184, .invokestatic), (183, .invokespecial), (187, .new), (178, .getstatic), (19, .ldc_w), (20, .ldc2_w)]
theorem fT2_ok : fA2 fT2 := ⟨fq_180, fq_182, fq_181, fq_184, fq_183, fq_187, fq_178, fq_19, fq_20, trivial⟩
def fT3 : List (Nat × (Int → Instr)) := [(167, fun o => .goto o), (17, fun o => .sipush o), (153, fun o => .ifCond .eq o), (154, fun o => .ifCond .ne o), (155, fun o => .ifCond .lt o), (156, fun o => .ifCond .ge o), (157, fun o => .ifCond .gt o), (158, fun o => .ifCond .le o), (159, fun o => .if_icmp .eq o), (160, fun o => .if_icmp .ne o), (161, fun o => .if_icmp .lt o), (162, fun o => .if_icmp .ge o), (163, fun o => .if_icmp .gt o), (164, fun o => .if_icmp .le o)]
theorem fT3_ok : fA3 fT3 := ⟨fq_167, fq_17, fq_153, fq_154, fq_155, fq_156, fq_157, fq_158, fq_159, fq_160, fq_161, fq_162, fq_163, fq_164, trivial⟩
/-- what stands at the head of these bytes -/
def fD : List UInt8 → Option (Instr × Nat)
  | [] => none
  | x :: r => match fL x.toNat fT0 with
    | some i => some (i, 1)
    | none => match r with
      | [] => none
      | y :: r => match fL x.toNat fT1 with
        | some f => some (f y.toNat, 2)
        | none => match Nat.beq x.toNat 16 with
          | true => some (.bipush (Jvm.ClassFile.Reader.signed 8 y.toNat), 2)
          | false => match r with
            | [] => none
            | z :: _ => match fL x.toNat fT2 with
              | some f => some (f (y.toNat * 256 + z.toNat), 3)
              | none => match fL x.toNat fT3 with
                | some f => some (f (Jvm.ClassFile.Reader.signed 16 (y.toNat * 256 + z.toNat)), 3)
                | none => match Nat.beq x.toNat 132 with
                  | true => some (.iinc y.toNat (Jvm.ClassFile.Reader.signed 8 z.toNat), 3)
                  | false => none
theorem fD_ok {b : ByteArray} {pc : Nat} {q : Instr × Nat} : ∀ {bs : List UInt8}, b.data.toList.drop pc = bs → fD bs = some q → decode b pc = .ok q
  | [], _, h => by cases h
  | x :: r, hb, h => by
    have hx := fb_u1 hb
    dsimp only [fD] at h
    cases h0 : fL x.toNat fT0 with
    | some i => rw [h0] at h; dsimp only at h; cases h; exact fA0_l fT0_ok h0 b pc hx
    | none =>
      rw [h0] at h
      dsimp only at h
      cases r with
      | nil => cases h
      | cons y r =>
        have hy := fb_u1 (fb_dr hb)
        dsimp only at h
        cases h1 : fL x.toNat fT1 with
        | some f => rw [h1] at h; dsimp only at h; cases h; exact fA1_l fT1_ok h1 b pc _ hx hy
        | none =>
          rw [h1] at h
          dsimp only at h
          cases h16 : Nat.beq x.toNat 16 with
          | true => rw [h16] at h; dsimp only at h; cases h; rw [Nat.eq_of_beq_eq_true h16] at hx; exact fq_16 b pc _ hx hy
          | false =>
            rw [h16] at h
            dsimp only at h
            cases r with
            | nil => cases h
            | cons z r =>
              have h3 := fb_u2 (fb_dr hb)
              have hz := fb_u1 (fb_dr (fb_dr hb))
              dsimp only at h
              cases h2 : fL x.toNat fT2 with
              | some f => rw [h2] at h; dsimp only at h; cases h; exact fA2_l fT2_ok h2 b pc _ hx h3
              | none =>
                rw [h2] at h
                dsimp only at h
                cases h4 : fL x.toNat fT3 with
                | some f => rw [h4] at h; dsimp only at h; cases h; exact fA3_l fT3_ok h4 b pc _ hx h3
                | none =>
                  rw [h4] at h
                  dsimp only at h
                  cases h132 : Nat.beq x.toNat 132 with
                  | true => rw [h132] at h; dsimp only at h; cases h; rw [Nat.eq_of_beq_eq_true h132] at hx; exact fq_132 b pc _ _ hx hy hz
                  | false => rw [h132] at h; dsimp only at h; cases h
def fw (b : ByteArray) : List (Nat × Instr) → List UInt8 → Nat → Bool
  | [], _, _ => true
  | q :: c, bs, pc => Nat.beq q.1 pc && (match fD bs with
    | some (i, n) => decide (i = q.2) && Nat.beq n (xil i) && fw b c (bs.drop n) (pc + n)
    | none => xdc b [[q]] && (match c with
      | [] => true
      | q2 :: _ => fw b c (bs.drop (q2.1 - pc)) (pc + (q2.1 - pc))))
theorem xdc_i {b : ByteArray} {q : Nat × Instr} {n : Nat} (h : decode b q.1 = .ok (q.2, n)) (hn : Nat.beq n (xil q.2) = true) : xdc b [[q]] = true := by
  unfold xdc
  rw [List.all_cons, List.all_nil, Bool.and_true, List.all_cons, List.all_nil, Bool.and_true]
  rw [h]
  dsimp only
  rw [Bool.and_eq_true]
  refine ⟨decide_eq_true rfl, ?_⟩
  split <;> first | rfl | exact hn
theorem xdc_fl {b : ByteArray} {c : xK} (h : ∀ q ∈ c.flatten, xdc b [[q]] = true) : xdc b c = true := by
  unfold xdc at h ⊢
  refine List.all_eq_true.mpr (fun ch hc => List.all_eq_true.mpr (fun q hq => ?_))
  have k := h q (List.mem_flatten.mpr ⟨ch, hc, hq⟩)
  rw [List.all_cons, List.all_nil, Bool.and_true, List.all_cons, List.all_nil, Bool.and_true] at k
  exact k
theorem fw_ok {b : ByteArray} : ∀ {c : List (Nat × Instr)} {bs : List UInt8} {pc : Nat}, b.data.toList.drop pc = bs → fw b c bs pc = true → ∀ q ∈ c, xdc b [[q]] = true
  | [], _, _, _, _, q, hq => by cases hq
  | q0 :: c, bs, pc, hb, h, q, hq => by
    unfold fw at h
    rw [Bool.and_eq_true] at h
    obtain ⟨h1, h2⟩ := h
    have e1 := Nat.eq_of_beq_eq_true h1
    cases hd : fD bs with
    | some r =>
      obtain ⟨i, n⟩ := r
      rw [hd] at h2
      dsimp only at h2
      rw [Bool.and_eq_true, Bool.and_eq_true] at h2
      obtain ⟨⟨a1, a2⟩, a3⟩ := h2
      have a1 := of_decide_eq_true a1
      rcases List.mem_cons.mp hq with e | e
      · have k := fD_ok hb hd
        rw [← e1, a1] at k
        rw [a1] at a2
        rw [e]
        exact xdc_i k a2
      · exact fw_ok (by rw [← List.drop_drop, hb]) a3 q e
    | none =>
      rw [hd] at h2
      dsimp only at h2
      rw [Bool.and_eq_true] at h2
      rcases List.mem_cons.mp hq with e | e
      · rw [e]; exact h2.1
      · cases c with
        | nil => cases e
        | cons q2 c => exact fw_ok (by rw [← List.drop_drop, hb]) h2.2 q e
theorem fw_x {b : ByteArray} {c : xK} (h : fw b c.flatten b.data.toList 0 = true) : xdc b c = true := xdc_fl (fw_ok (pc := 0) (bs := b.data.toList) rfl h)
set_option maxRecDepth 100000 in
theorem xf_0 : xdc prog_2_method_1_code k0 = true := fw_x (by decide +kernel)
set_option maxRecDepth 100000 in
theorem xf_1 : xdc prog_2_method_2_code k1 = true := fw_x (by decide +kernel)
set_option maxRecDepth 100000 in
theorem xf_2 : xdc prog_2_method_3_code k2 = true := fw_x (by decide +kernel)
set_option maxRecDepth 100000 in
theorem xf_3 : xdc prog_2_method_4_code k3 = true := fw_x (by decide +kernel)
set_option maxRecDepth 100000 in
theorem xf_4 : xdc prog_2_method_5_code k4 = true := fw_x (by decide +kernel)
set_option maxRecDepth 100000 in
theorem xf_5 : xdc prog_3_method_1_code k5 = true := fw_x (by decide +kernel)
set_option maxRecDepth 100000 in
theorem xf_6 : xdc prog_3_method_2_code k6 = true := fw_x (by decide +kernel)
set_option maxRecDepth 100000 in
theorem xf_7 : xdc prog_3_method_3_code k7 = true := fw_x (by decide +kernel)
set_option maxRecDepth 100000 in
theorem xf_8 : xdc prog_3_method_4_code k8 = true := fw_x (by decide +kernel)
set_option maxRecDepth 100000 in
theorem xf_9 : xdc prog_3_method_5_code k9 = true := fw_x (by decide +kernel)
set_option maxRecDepth 100000 in
theorem xf_10 : xdc prog_3_method_6_code k10 = true := fw_x (by decide +kernel)
set_option maxRecDepth 100000 in
theorem xf_11 : xdc prog_3_method_7_code k11 = true := fw_x (by decide +kernel)
set_option maxRecDepth 100000 in
theorem xf_12 : xdc prog_3_method_8_code k12 = true := fw_x (by decide +kernel)
set_option maxRecDepth 100000 in
theorem xf_13 : xdc prog_3_method_9_code k13 = true := fw_x (by decide +kernel)
set_option maxRecDepth 100000 in
theorem xf_14 : xdc prog_3_method_10_code k14 = true := fw_x (by decide +kernel)
set_option maxRecDepth 100000 in
theorem xf_15 : xdc prog_3_method_11_code k15 = true := fw_x (by decide +kernel)
set_option maxRecDepth 100000 in
theorem xf_16 : xdc prog_3_method_12_code k16 = true := fw_x (by decide +kernel)
set_option maxRecDepth 100000 in
theorem xf_17 : xdc prog_3_method_13_code k17 = true := fw_x (by decide +kernel)
set_option maxRecDepth 100000 in
theorem xf_18 : xdc prog_3_method_14_code k18 = true := fw_x (by decide +kernel)
set_option maxRecDepth 100000 in
theorem xf_19 : xdc prog_3_method_15_code k19 = true := fw_x (by decide +kernel)
set_option maxRecDepth 100000 in
theorem xf_20 : xdc prog_3_method_16_code k20 = true := fw_x (by decide +kernel)
set_option maxRecDepth 100000 in
theorem xf_21 : xdc prog_3_method_17_code k21 = true := fw_x (by decide +kernel)
set_option maxRecDepth 100000 in
theorem xf_22 : xdc prog_3_method_18_code k22 = true := fw_x (by decide +kernel)
set_option maxRecDepth 100000 in
theorem xf_23 : xdc prog_4_method_1_code k23 = true := fw_x (by decide +kernel)
set_option maxRecDepth 100000 in
theorem xf_24 : xdc prog_4_method_2_code k24 = true := fw_x (by decide +kernel)
set_option maxRecDepth 100000 in
theorem xf_25 : xdc prog_4_method_3_code k25 = true := fw_x (by decide +kernel)
set_option maxRecDepth 100000 in
theorem xf_26 : xdc prog_4_method_4_code k26 = true := fw_x (by decide +kernel)
set_option maxRecDepth 100000 in
theorem xf_27 : xdc prog_4_method_5_code k27 = true := fw_x (by decide +kernel)
set_option maxRecDepth 100000 in
theorem xf_28 : xdc prog_4_method_6_code k28 = true := fw_x (by decide +kernel)
set_option maxRecDepth 100000 in
theorem xf_29 : xdc prog_4_method_7_code k29 = true := fw_x (by decide +kernel)
set_option maxRecDepth 100000 in
theorem xf_30 : xdc prog_4_method_8_code k30 = true := fw_x (by decide +kernel)
set_option maxRecDepth 100000 in
theorem xf_31 : xdc prog_4_method_9_code k31 = true := fw_x (by decide +kernel)
set_option maxRecDepth 100000 in
theorem xf_32 : xdc prog_4_method_10_code k32 = true := fw_x (by decide +kernel)
set_option maxRecDepth 100000 in
theorem xf_33 : xdc prog_4_method_11_code k33 = true := fw_x (by decide +kernel)
set_option maxRecDepth 100000 in
theorem xf_34 : xdc prog_4_method_12_code k34 = true := fw_x (by decide +kernel)
set_option maxRecDepth 100000 in
theorem xf_35 : xdc prog_4_method_13_code k35 = true := fw_x (by decide +kernel)
set_option maxRecDepth 100000 in
theorem xf_36 : xdc prog_4_method_14_code k36 = true := fw_x (by decide +kernel)
set_option maxRecDepth 100000 in
theorem xf_37 : xdc prog_4_method_15_code k37 = true := fw_x (by decide +kernel)
set_option maxRecDepth 100000 in
theorem xf_38 : xdc prog_4_method_16_code k38 = true := fw_x (by decide +kernel)
set_option maxRecDepth 100000 in
theorem xf_39 : xdc prog_5_method_1_code k39 = true := fw_x (by decide +kernel)
set_option maxRecDepth 100000 in
theorem xf_40 : xdc prog_5_method_2_code k40 = true := fw_x (by decide +kernel)
set_option maxRecDepth 100000 in
theorem xf_41 : xdc prog_5_method_3_code k41 = true := fw_x (by decide +kernel)
set_option maxRecDepth 100000 in
theorem xf_42 : xdc prog_5_method_4_code k42 = true := fw_x (by decide +kernel)
set_option maxRecDepth 100000 in
theorem xf_43 : xdc prog_5_method_5_code k43 = true := fw_x (by decide +kernel)
set_option maxRecDepth 100000 in
theorem xf_44 : xdc prog_5_method_6_code k44 = true := fw_x (by decide +kernel)
set_option maxRecDepth 100000 in
theorem xf_45 : xdc prog_5_method_7_code k45 = true := fw_x (by decide +kernel)
set_option maxRecDepth 100000 in
theorem xf_46 : xdc prog_5_method_8_code k46 = true := fw_x (by decide +kernel)
set_option maxRecDepth 100000 in
theorem xf_47 : xdc prog_5_method_9_code k47 = true := fw_x (by decide +kernel)
set_option maxRecDepth 100000 in
theorem xf_48 : xdc prog_6_method_1_code k48 = true := fw_x (by decide +kernel)
set_option maxRecDepth 100000 in
theorem xf_49 : xdc prog_6_method_2_code k49 = true := fw_x (by decide +kernel)
set_option maxRecDepth 100000 in
theorem xf_50 : xdc prog_6_method_3_code k50 = true := fw_x (by decide +kernel)
set_option maxRecDepth 100000 in
theorem xf_51 : xdc prog_6_method_4_code k51 = true := fw_x (by decide +kernel)
set_option maxRecDepth 100000 in
theorem xf_52 : xdc prog_6_method_5_code k52 = true := fw_x (by decide +kernel)
set_option maxRecDepth 100000 in
theorem xf_53 : xdc prog_6_method_6_code k53 = true := fw_x (by decide +kernel)
set_option maxRecDepth 100000 in
theorem xf_54 : xdc prog_6_method_7_code k54 = true := fw_x (by decide +kernel)
set_option maxRecDepth 100000 in
theorem xf_55 : xdc prog_6_method_8_code k55 = true := fw_x (by decide +kernel)
set_option maxRecDepth 100000 in
theorem xf_56 : xdc prog_6_method_9_code k56 = true := fw_x (by decide +kernel)
set_option maxRecDepth 100000 in
theorem xf_57 : xdc prog_7_method_1_code k57 = true := fw_x (by decide +kernel)
set_option maxRecDepth 100000 in
theorem xf_58 : xdc prog_7_method_2_code k58 = true := fw_x (by decide +kernel)
set_option maxRecDepth 100000 in
theorem xf_59 : xdc prog_7_method_3_code k59 = true := fw_x (by decide +kernel)
set_option maxRecDepth 100000 in
theorem xf_60 : xdc prog_7_method_4_code k60 = true := fw_x (by decide +kernel)
set_option maxRecDepth 100000 in
theorem xf_61 : xdc prog_7_method_5_code k61 = true := fw_x (by decide +kernel)
set_option maxRecDepth 100000 in
theorem xf_62 : xdc prog_7_method_6_code k62 = true := fw_x (by decide +kernel)
set_option maxRecDepth 100000 in
theorem xf_63 : xdc prog_7_method_7_code k63 = true := fw_x (by decide +kernel)
set_option maxRecDepth 100000 in
theorem xf_64 : xdc prog_7_method_8_code k64 = true := fw_x (by decide +kernel)
set_option maxRecDepth 100000 in
theorem xf_65 : xdc prog_8_method_1_code k65 = true := fw_x (by decide +kernel)
set_option maxRecDepth 100000 in
theorem xf_66 : xdc prog_8_method_2_code k66 = true := fw_x (by decide +kernel)
set_option maxRecDepth 100000 in
theorem xf_67 : xdc prog_8_method_3_code k67 = true := fw_x (by decide +kernel)
set_option maxRecDepth 100000 in
theorem xf_68 : xdc prog_8_method_4_code k68 = true := fw_x (by decide +kernel)
set_option maxRecDepth 100000 in
theorem xf_69 : xdc prog_8_method_5_code k69 = true := fw_x (by decide +kernel)
set_option maxRecDepth 100000 in
theorem xf_70 : xdc prog_8_method_6_code k70 = true := fw_x (by decide +kernel)
set_option maxRecDepth 100000 in
theorem xf_71 : xdc prog_8_method_7_code k71 = true := fw_x (by decide +kernel)
set_option maxRecDepth 100000 in
theorem xf_72 : xdc prog_8_method_8_code k72 = true := fw_x (by decide +kernel)
set_option maxRecDepth 100000 in
theorem xf_73 : xdc prog_8_method_9_code k73 = true := fw_x (by decide +kernel)
set_option maxRecDepth 100000 in
theorem xf_74 : xdc prog_8_method_10_code k74 = true := fw_x (by decide +kernel)
set_option maxRecDepth 100000 in
theorem xf_75 : xdc prog_8_method_11_code k75 = true := fw_x (by decide +kernel)
set_option maxRecDepth 100000 in
theorem xf_76 : xdc prog_8_method_12_code k76 = true := fw_x (by decide +kernel)
set_option maxRecDepth 100000 in
theorem xf_77 : xdc prog_8_method_13_code k77 = true := fw_x (by decide +kernel)
set_option maxRecDepth 100000 in
theorem xf_78 : xdc prog_8_method_14_code k78 = true := fw_x (by decide +kernel)
set_option maxRecDepth 100000 in
theorem xf_79 : xdc prog_8_method_15_code k79 = true := fw_x (by decide +kernel)
set_option maxRecDepth 100000 in
theorem xf_80 : xdc prog_9_method_1_code k80 = true := fw_x (by decide +kernel)
set_option maxRecDepth 100000 in
theorem xf_81 : xdc prog_9_method_2_code k81 = true := fw_x (by decide +kernel)
set_option maxRecDepth 100000 in
theorem xf_82 : xdc prog_9_method_3_code k82 = true := fw_x (by decide +kernel)
set_option maxRecDepth 100000 in
theorem xf_83 : xdc prog_9_method_4_code k83 = true := fw_x (by decide +kernel)
set_option maxRecDepth 100000 in
theorem xf_84 : xdc prog_9_method_5_code k84 = true := fw_x (by decide +kernel)
set_option maxRecDepth 100000 in
theorem xf_85 : xdc prog_9_method_6_code k85 = true := fw_x (by decide +kernel)
set_option maxRecDepth 100000 in
theorem xf_86 : xdc prog_9_method_7_code k86 = true := fw_x (by decide +kernel)
set_option maxRecDepth 100000 in
theorem xf_87 : xdc prog_9_method_8_code k87 = true := fw_x (by decide +kernel)
set_option maxRecDepth 100000 in
theorem xf_88 : xdc prog_9_method_9_code k88 = true := fw_x (by decide +kernel)
set_option maxRecDepth 100000 in
theorem xf_89 : xdc prog_9_method_10_code k89 = true := fw_x (by decide +kernel)
set_option maxRecDepth 100000 in
theorem xf_90 : xdc prog_9_method_11_code k90 = true := fw_x (by decide +kernel)
set_option maxRecDepth 100000 in
theorem xf_91 : xdc prog_10_method_1_code k91 = true := fw_x (by decide +kernel)
set_option maxRecDepth 100000 in
theorem xf_92 : xdc prog_10_method_2_code k92 = true := fw_x (by decide +kernel)
set_option maxRecDepth 100000 in
theorem xf_93 : xdc prog_10_method_3_code k93 = true := fw_x (by decide +kernel)
set_option maxRecDepth 100000 in
theorem xf_94 : xdc prog_10_method_4_code k94 = true := fw_x (by decide +kernel)
set_option maxRecDepth 100000 in
theorem xf_95 : xdc prog_10_method_5_code k95 = true := fw_x (by decide +kernel)
set_option maxRecDepth 100000 in
theorem xf_96 : xdc prog_10_method_6_code k96 = true := fw_x (by decide +kernel)
set_option maxRecDepth 100000 in
theorem xf_97 : xdc prog_10_method_7_code k97 = true := fw_x (by decide +kernel)
set_option maxRecDepth 100000 in
theorem xf_98 : xdc prog_10_method_8_code k98 = true := fw_x (by decide +kernel)
set_option maxRecDepth 100000 in
theorem xf_99 : xdc prog_10_method_9_code k99 = true := fw_x (by decide +kernel)
set_option maxRecDepth 100000 in
theorem xf_100 : xdc prog_10_method_10_code k100 = true := fw_x (by decide +kernel)
set_option maxRecDepth 100000 in
theorem xf_101 : xdc prog_10_method_11_code k101 = true := fw_x (by decide +kernel)
set_option maxRecDepth 100000 in
theorem xf_102 : xdc prog_10_method_12_code k102 = true := fw_x (by decide +kernel)
set_option maxRecDepth 100000 in
theorem xf_103 : xdc prog_10_method_13_code k103 = true := fw_x (by decide +kernel)
set_option maxRecDepth 100000 in
theorem xf_104 : xdc prog_10_method_14_code k104 = true := fw_x (by decide +kernel)
set_option maxRecDepth 100000 in
theorem xf_105 : xdc prog_10_method_15_code k105 = true := fw_x (by decide +kernel)
set_option maxRecDepth 100000 in
theorem xf_106 : xdc prog_10_method_16_code k106 = true := fw_x (by decide +kernel)
set_option maxRecDepth 100000 in
theorem xf_107 : xdc prog_11_method_1_code k107 = true := fw_x (by decide +kernel)
set_option maxRecDepth 100000 in
theorem xf_108 : xdc prog_11_method_2_code k108 = true := fw_x (by decide +kernel)
set_option maxRecDepth 100000 in
theorem xf_109 : xdc prog_11_method_3_code k109 = true := fw_x (by decide +kernel)
set_option maxRecDepth 100000 in
theorem xf_110 : xdc prog_11_method_4_code k110 = true := fw_x (by decide +kernel)
set_option maxRecDepth 100000 in
theorem xf_111 : xdc prog_11_method_5_code k111 = true := fw_x (by decide +kernel)
set_option maxRecDepth 100000 in
theorem xf_112 : xdc prog_11_method_6_code k112 = true := fw_x (by decide +kernel)
set_option maxRecDepth 100000 in
theorem xf_113 : xdc prog_11_method_7_code k113 = true := fw_x (by decide +kernel)
set_option maxRecDepth 100000 in
theorem xf_114 : xdc prog_11_method_8_code k114 = true := fw_x (by decide +kernel)
set_option maxRecDepth 100000 in
theorem xf_115 : xdc prog_11_method_9_code k115 = true := fw_x (by decide +kernel)
set_option maxRecDepth 100000 in
theorem xf_116 : xdc prog_11_method_10_code k116 = true := fw_x (by decide +kernel)
set_option maxRecDepth 100000 in
theorem xf_117 : xdc prog_12_method_1_code k117 = true := fw_x (by decide +kernel)
set_option maxRecDepth 100000 in
theorem xf_118 : xdc prog_12_method_2_code k118 = true := fw_x (by decide +kernel)
set_option maxRecDepth 100000 in
theorem xf_119 : xdc prog_12_method_3_code k119 = true := fw_x (by decide +kernel)
set_option maxRecDepth 100000 in
theorem xf_120 : xdc prog_12_method_4_code k120 = true := fw_x (by decide +kernel)
set_option maxRecDepth 100000 in
theorem xf_121 : xdc prog_12_method_5_code k121 = true := fw_x (by decide +kernel)
set_option maxRecDepth 100000 in
theorem xf_122 : xdc prog_12_method_6_code k122 = true := fw_x (by decide +kernel)
set_option maxRecDepth 100000 in
theorem xf_123 : xdc prog_12_method_7_code k123 = true := fw_x (by decide +kernel)
set_option maxRecDepth 100000 in
theorem xf_124 : xdc prog_1_method_1_code k124 = true := fw_x (by decide +kernel)
set_option maxRecDepth 100000 in
theorem xf_125 : xdc prog_1_method_2_code k125 = true := fw_x (by decide +kernel)
set_option maxRecDepth 100000 in
theorem xf_126 : xdc prog_1_method_3_code k126 = true := fw_x (by decide +kernel)
set_option maxRecDepth 100000 in
theorem xf_127 : xdc prog_1_method_4_code k127 = true := fw_x (by decide +kernel)
set_option maxRecDepth 100000 in
theorem xf_128 : xdc prog_1_method_5_code k128 = true := fw_x (by decide +kernel)
set_option maxRecDepth 100000 in
theorem xf_129 : xdc prog_1_method_6_code k129 = true := fw_x (by decide +kernel)
set_option maxRecDepth 100000 in
theorem xf_130 : xdc prog_1_method_7_code k130 = true := fw_x (by decide +kernel)
set_option maxRecDepth 100000 in
theorem xf_131 : xdc prog_1_method_8_code k131 = true := fw_x (by decide +kernel)
set_option maxRecDepth 100000 in
theorem xf_132 : xdc prog_1_method_9_code k132 = true := fw_x (by decide +kernel)
set_option maxRecDepth 100000 in
theorem xf_133 : xdc prog_1_method_10_code k133 = true := fw_x (by decide +kernel)
set_option maxRecDepth 100000 in
theorem xf_134 : xdc prog_1_method_11_code k134 = true := fw_x (by decide +kernel)
set_option maxRecDepth 100000 in
theorem xf_135 : xdc prog_1_method_12_code k135 = true := fw_x (by decide +kernel)
set_option maxRecDepth 100000 in
theorem xf_136 : xdc prog_1_method_13_code k136 = true := fw_x (by decide +kernel)
set_option maxRecDepth 100000 in
theorem xf_137 : xdc prog_1_method_14_code k137 = true := fw_x (by decide +kernel)
set_option maxRecDepth 100000 in
theorem xf_138 : xdc prog_1_method_15_code k138 = true := fw_x (by decide +kernel)
set_option maxRecDepth 100000 in
theorem xf_139 : xdc prog_1_method_16_code k139 = true := fw_x (by decide +kernel)
set_option maxRecDepth 100000 in
theorem xf_140 : xdc prog_1_method_17_code k140 = true := fw_x (by decide +kernel)
set_option maxRecDepth 100000 in
theorem xf_141 : xdc prog_1_method_18_code k141 = true := fw_x (by decide +kernel)
set_option maxRecDepth 100000 in
theorem xf_142 : xdc prog_1_method_19_code k142 = true := fw_x (by decide +kernel)
set_option maxRecDepth 100000 in
theorem xf_143 : xdc prog_1_method_20_code k143 = true := fw_x (by decide +kernel)
set_option maxRecDepth 100000 in
theorem xf_144 : xdc prog_1_method_21_code k144 = true := fw_x (by decide +kernel)
set_option maxRecDepth 100000 in
theorem xf_145 : xdc prog_1_method_22_code k145 = true := fw_x (by decide +kernel)
set_option maxRecDepth 100000 in
theorem xf_146 : xdc prog_1_method_23_code k146 = true := fw_x (by decide +kernel)
set_option maxRecDepth 100000 in
theorem xf_147 : xdc prog_1_method_24_code k147 = true := fw_x (by decide +kernel)
set_option maxRecDepth 100000 in
theorem xf_148 : xdc prog_1_method_25_code k148 = true := fw_x (by decide +kernel)
set_option maxRecDepth 100000 in
theorem xf_149 : xdc prog_1_method_26_code k149 = true := fw_x (by decide +kernel)
set_option maxRecDepth 100000 in
theorem xf_150 : xdc prog_1_method_27_code k150 = true := fw_x (by decide +kernel)
set_option maxRecDepth 100000 in
theorem xf_151 : xdc prog_1_method_28_code k151 = true := fw_x (by decide +kernel)
set_option maxRecDepth 100000 in
theorem xf_152 : xdc prog_1_method_29_code k152 = true := fw_x (by decide +kernel)
set_option maxRecDepth 100000 in
theorem xf_153 : xdc prog_1_method_30_code k153 = true := fw_x (by decide +kernel)
set_option maxRecDepth 100000 in
theorem xf_154 : xdc prog_1_method_31_code k154 = true := fw_x (by decide +kernel)
set_option maxRecDepth 100000 in
theorem xf_155 : xdc prog_1_method_32_code k155 = true := fw_x (by decide +kernel)
set_option maxRecDepth 100000 in
theorem xf_156 : xdc prog_1_method_33_code k156 = true := fw_x (by decide +kernel)
set_option maxRecDepth 100000 in
theorem xf_157 : xdc prog_1_method_34_code k157 = true := fw_x (by decide +kernel)
set_option maxRecDepth 100000 in
theorem xf_158 : xdc prog_1_method_35_code k158 = true := fw_x (by decide +kernel)
set_option maxRecDepth 100000 in
theorem xf_159 : xdc prog_1_method_36_code k159 = true := fw_x (by decide +kernel)
set_option maxRecDepth 100000 in
theorem xf_160 : xdc prog_1_method_37_code k160 = true := fw_x (by decide +kernel)
set_option maxRecDepth 100000 in
theorem xf_161 : xdc prog_1_method_38_code k161 = true := fw_x (by decide +kernel)
set_option maxRecDepth 100000 in
theorem xf_162 : xdc prog_1_method_39_code k162 = true := fw_x (by decide +kernel)
set_option maxRecDepth 100000 in
theorem xf_163 : xdc prog_1_method_40_code k163 = true := fw_x (by decide +kernel)
set_option maxRecDepth 100000 in
theorem xf_164 : xdc prog_1_method_41_code k164 = true := fw_x (by decide +kernel)
set_option maxRecDepth 100000 in
theorem xf_165 : xdc prog_1_method_42_code k165 = true := fw_x (by decide +kernel)
set_option maxRecDepth 100000 in
theorem xf_166 : xdc prog_1_method_43_code k166 = true := fw_x (by decide +kernel)
set_option maxRecDepth 100000 in
theorem xf_167 : xdc prog_1_method_44_code k167 = true := fw_x (by decide +kernel)
set_option maxRecDepth 100000 in
theorem xf_168 : xdc prog_1_method_45_code k168 = true := fw_x (by decide +kernel)
set_option maxRecDepth 100000 in
theorem xf_169 : xdc prog_1_method_46_code k169 = true := fw_x (by decide +kernel)
set_option maxRecDepth 100000 in
theorem xf_170 : xdc prog_1_method_47_code k170 = true := fw_x (by decide +kernel)
set_option maxRecDepth 100000 in
theorem xf_171 : xdc prog_1_method_48_code k171 = true := fw_x (by decide +kernel)
set_option maxRecDepth 100000 in
theorem xf_172 : xdc prog_1_method_49_code k172 = true := fw_x (by decide +kernel)
set_option maxRecDepth 100000 in
theorem xf_173 : xdc prog_1_method_50_code k173 = true := fw_x (by decide +kernel)
set_option maxRecDepth 100000 in
theorem xf_174 : xdc prog_14_method_1_code k174 = true := fw_x (by decide +kernel)
set_option maxRecDepth 100000 in
theorem xf_175 : xdc prog_14_method_2_code k175 = true := fw_x (by decide +kernel)
set_option maxRecDepth 100000 in
theorem xf_176 : xdc prog_14_method_3_code k176 = true := fw_x (by decide +kernel)
set_option maxRecDepth 100000 in
theorem xf_177 : xdc prog_14_method_4_code k177 = true := fw_x (by decide +kernel)
set_option maxRecDepth 100000 in
theorem xf_178 : xdc prog_14_method_5_code k178 = true := fw_x (by decide +kernel)
set_option maxRecDepth 100000 in
theorem xf_179 : xdc prog_14_method_6_code k179 = true := fw_x (by decide +kernel)
set_option maxRecDepth 100000 in
theorem xf_180 : xdc prog_14_method_7_code k180 = true := fw_x (by decide +kernel)
set_option maxRecDepth 100000 in
theorem xf_181 : xdc prog_14_method_8_code k181 = true := fw_x (by decide +kernel)
set_option maxRecDepth 100000 in
theorem xf_182 : xdc prog_14_method_9_code k182 = true := fw_x (by decide +kernel)
set_option maxRecDepth 100000 in
theorem xf_183 : xdc prog_14_method_10_code k183 = true := fw_x (by decide +kernel)
set_option maxRecDepth 100000 in
theorem xf_184 : xdc prog_14_method_11_code k184 = true := fw_x (by decide +kernel)
set_option maxRecDepth 100000 in
theorem xf_185 : xdc prog_14_method_12_code k185 = true := fw_x (by decide +kernel)
set_option maxRecDepth 100000 in
theorem xf_186 : xdc prog_14_method_13_code k186 = true := fw_x (by decide +kernel)
set_option maxRecDepth 100000 in
theorem xf_187 : xdc prog_14_method_14_code k187 = true := fw_x (by decide +kernel)
set_option maxRecDepth 100000 in
theorem xf_188 : xdc prog_14_method_15_code k188 = true := fw_x (by decide +kernel)
set_option maxRecDepth 100000 in
theorem xf_189 : xdc prog_14_method_16_code k189 = true := fw_x (by decide +kernel)
set_option maxRecDepth 100000 in
theorem xf_190 : xdc prog_14_method_17_code k190 = true := fw_x (by decide +kernel)
set_option maxRecDepth 100000 in
theorem xf_191 : xdc prog_14_method_18_code k191 = true := fw_x (by decide +kernel)
set_option maxRecDepth 100000 in
theorem xf_192 : xdc prog_14_method_19_code k192 = true := fw_x (by decide +kernel)
set_option maxRecDepth 100000 in
theorem xf_193 : xdc prog_14_method_20_code k193 = true := fw_x (by decide +kernel)
set_option maxRecDepth 100000 in
theorem xf_194 : xdc prog_14_method_21_code k194 = true := fw_x (by decide +kernel)
set_option maxRecDepth 100000 in
theorem xf_195 : xdc prog_14_method_22_code k195 = true := fw_x (by decide +kernel)
set_option maxRecDepth 100000 in
theorem xf_196 : xdc prog_14_method_23_code k196 = true := fw_x (by decide +kernel)
set_option maxRecDepth 100000 in
theorem xf_197 : xdc prog_14_method_24_code k197 = true := fw_x (by decide +kernel)
set_option maxRecDepth 100000 in
theorem xf_198 : xdc prog_14_method_25_code k198 = true := fw_x (by decide +kernel)
set_option maxRecDepth 100000 in
theorem xf_199 : xdc prog_14_method_26_code k199 = true := fw_x (by decide +kernel)
set_option maxRecDepth 100000 in
theorem xf_200 : xdc prog_14_method_27_code k200 = true := fw_x (by decide +kernel)
set_option maxRecDepth 100000 in
theorem xf_201 : xdc prog_14_method_28_code k201 = true := fw_x (by decide +kernel)
set_option maxRecDepth 100000 in
theorem xf_202 : xdc prog_14_method_29_code k202 = true := fw_x (by decide +kernel)
set_option maxRecDepth 100000 in
theorem xf_203 : xdc prog_14_method_30_code k203 = true := fw_x (by decide +kernel)
set_option maxRecDepth 100000 in
theorem xf_204 : xdc prog_14_method_31_code k204 = true := fw_x (by decide +kernel)
set_option maxRecDepth 100000 in
theorem xf_205 : xdc prog_14_method_32_code k205 = true := fw_x (by decide +kernel)
set_option maxRecDepth 100000 in
theorem xf_206 : xdc prog_14_method_33_code k206 = true := fw_x (by decide +kernel)
set_option maxRecDepth 100000 in
theorem xf_207 : xdc prog_14_method_34_code k207 = true := fw_x (by decide +kernel)
set_option maxRecDepth 100000 in
theorem xf_208 : xdc prog_14_method_35_code k208 = true := fw_x (by decide +kernel)
set_option maxRecDepth 100000 in
theorem xf_209 : xdc prog_14_method_36_code k209 = true := fw_x (by decide +kernel)
set_option maxRecDepth 100000 in
theorem xf_210 : xdc prog_14_method_37_code k210 = true := fw_x (by decide +kernel)
set_option maxRecDepth 100000 in
theorem xf_211 : xdc prog_14_method_38_code k211 = true := fw_x (by decide +kernel)
set_option maxRecDepth 100000 in
theorem xf_212 : xdc prog_14_method_39_code k212 = true := fw_x (by decide +kernel)
set_option maxRecDepth 100000 in
theorem xf_213 : xdc prog_14_method_40_code k213 = true := fw_x (by decide +kernel)
set_option maxRecDepth 100000 in
theorem xf_214 : xdc prog_14_method_41_code k214 = true := fw_x (by decide +kernel)
set_option maxRecDepth 100000 in
theorem xf_215 : xdc prog_14_method_42_code k215 = true := fw_x (by decide +kernel)
set_option maxRecDepth 100000 in
theorem xf_216 : xdc prog_14_method_43_code k216 = true := fw_x (by decide +kernel)
set_option maxRecDepth 100000 in
theorem xf_217 : xdc prog_14_method_44_code k217 = true := fw_x (by decide +kernel)
set_option maxRecDepth 100000 in
theorem xf_218 : xdc prog_14_method_45_code k218 = true := fw_x (by decide +kernel)
set_option maxRecDepth 100000 in
theorem xf_219 : xdc prog_14_method_46_code k219 = true := fw_x (by decide +kernel)
set_option maxRecDepth 100000 in
theorem xf_220 : xdc prog_14_method_47_code k220 = true := fw_x (by decide +kernel)
set_option maxRecDepth 100000 in
theorem xf_221 : xdc prog_14_method_48_code k221 = true := fw_x (by decide +kernel)
set_option maxRecDepth 100000 in
theorem xf_222 : xdc prog_14_method_49_code k222 = true := fw_x (by decide +kernel)
set_option maxRecDepth 100000 in
theorem xf_223 : xdc prog_14_method_50_code k223 = true := fw_x (by decide +kernel)
set_option maxRecDepth 100000 in
theorem xf_224 : xdc prog_14_method_51_code k224 = true := fw_x (by decide +kernel)
set_option maxRecDepth 100000 in
theorem xf_225 : xdc prog_14_method_52_code k225 = true := fw_x (by decide +kernel)
set_option maxRecDepth 100000 in
theorem xf_226 : xdc prog_14_method_53_code k226 = true := fw_x (by decide +kernel)
set_option maxRecDepth 100000 in
theorem xf_227 : xdc prog_14_method_54_code k227 = true := fw_x (by decide +kernel)
set_option maxRecDepth 100000 in
theorem xf_228 : xdc prog_14_method_55_code k228 = true := fw_x (by decide +kernel)
set_option maxRecDepth 100000 in
theorem xf_229 : xdc prog_14_method_56_code k229 = true := fw_x (by decide +kernel)
set_option maxRecDepth 100000 in
theorem xf_230 : xdc prog_14_method_57_code k230 = true := fw_x (by decide +kernel)
set_option maxRecDepth 100000 in
theorem xf_231 : xdc prog_14_method_58_code k231 = true := fw_x (by decide +kernel)
set_option maxRecDepth 100000 in
theorem xf_232 : xdc prog_14_method_59_code k232 = true := fw_x (by decide +kernel)
set_option maxRecDepth 100000 in
theorem xf_233 : xdc prog_14_method_60_code k233 = true := fw_x (by decide +kernel)
set_option maxRecDepth 100000 in
theorem xf_234 : xdc prog_14_method_61_code k234 = true := fw_x (by decide +kernel)
set_option maxRecDepth 100000 in
theorem xf_235 : xdc prog_14_method_62_code k235 = true := fw_x (by decide +kernel)
set_option maxRecDepth 100000 in
theorem xf_236 : xdc prog_14_method_63_code k236 = true := fw_x (by decide +kernel)
set_option maxRecDepth 100000 in
theorem xf_237 : xdc prog_14_method_64_code k237 = true := fw_x (by decide +kernel)
set_option maxRecDepth 100000 in
theorem xf_238 : xdc prog_14_method_65_code k238 = true := fw_x (by decide +kernel)
set_option maxRecDepth 100000 in
theorem xf_239 : xdc prog_14_method_66_code k239 = true := fw_x (by decide +kernel)
set_option maxRecDepth 100000 in
theorem xf_240 : xdc prog_14_method_67_code k240 = true := fw_x (by decide +kernel)
set_option maxRecDepth 100000 in
theorem xf_241 : xdc prog_14_method_68_code k241 = true := fw_x (by decide +kernel)
set_option maxRecDepth 100000 in
theorem xf_242 : xdc prog_14_method_69_code k242 = true := fw_x (by decide +kernel)
set_option maxRecDepth 100000 in
theorem xf_243 : xdc prog_14_method_70_code k243 = true := fw_x (by decide +kernel)
set_option maxRecDepth 100000 in
theorem xf_244 : xdc prog_14_method_71_code k244 = true := fw_x (by decide +kernel)
set_option maxRecDepth 100000 in
theorem xf_245 : xdc prog_14_method_72_code k245 = true := fw_x (by decide +kernel)
set_option maxRecDepth 100000 in
theorem xf_246 : xdc prog_14_method_73_code k246 = true := fw_x (by decide +kernel)
set_option maxRecDepth 100000 in
theorem xf_247 : xdc prog_14_method_74_code k247 = true := fw_x (by decide +kernel)
set_option maxRecDepth 100000 in
theorem xf_248 : xdc prog_14_method_75_code k248 = true := fw_x (by decide +kernel)
set_option maxRecDepth 100000 in
theorem xf_249 : xdc prog_14_method_76_code k249 = true := fw_x (by decide +kernel)
set_option maxRecDepth 100000 in
theorem xf_250 : xdc prog_14_method_77_code k250 = true := fw_x (by decide +kernel)
set_option maxRecDepth 100000 in
theorem xf_251 : xdc prog_14_method_78_code k251 = true := fw_x (by decide +kernel)
set_option maxRecDepth 100000 in
theorem xf_252 : xdc prog_14_method_79_code k252 = true := fw_x (by decide +kernel)
set_option maxRecDepth 100000 in
theorem xf_253 : xdc prog_14_method_80_code k253 = true := fw_x (by decide +kernel)
set_option maxRecDepth 100000 in
theorem xf_254 : xdc prog_14_method_81_code k254 = true := fw_x (by decide +kernel)
set_option maxRecDepth 100000 in
theorem xf_255 : xdc prog_14_method_82_code k255 = true := fw_x (by decide +kernel)
set_option maxRecDepth 100000 in
theorem xf_256 : xdc prog_14_method_83_code k256 = true := fw_x (by decide +kernel)
set_option maxRecDepth 100000 in
theorem xf_257 : xdc prog_14_method_84_code k257 = true := fw_x (by decide +kernel)
set_option maxRecDepth 100000 in
theorem xf_258 : xdc prog_14_method_85_code k258 = true := fw_x (by decide +kernel)
set_option maxRecDepth 100000 in
theorem xf_259 : xdc prog_14_method_86_code k259 = true := fw_x (by decide +kernel)
set_option maxRecDepth 100000 in
theorem xf_260 : xdc prog_14_method_87_code k260 = true := fw_x (by decide +kernel)
set_option maxRecDepth 100000 in
theorem xf_261 : xdc prog_14_method_88_code k261 = true := fw_x (by decide +kernel)
set_option maxRecDepth 100000 in
theorem xf_262 : xdc prog_14_method_89_code k262 = true := fw_x (by decide +kernel)
set_option maxRecDepth 100000 in
theorem xf_263 : xdc prog_14_method_90_code k263 = true := fw_x (by decide +kernel)
set_option maxRecDepth 100000 in
theorem xf_264 : xdc prog_14_method_91_code k264 = true := fw_x (by decide +kernel)
set_option maxRecDepth 100000 in
theorem xf_265 : xdc prog_14_method_92_code k265 = true := fw_x (by decide +kernel)
set_option maxRecDepth 100000 in
theorem xf_266 : xdc prog_14_method_93_code k266 = true := fw_x (by decide +kernel)
set_option maxRecDepth 100000 in
theorem xf_267 : xdc prog_14_method_94_code k267 = true := fw_x (by decide +kernel)
set_option maxRecDepth 100000 in
theorem xf_268 : xdc prog_14_method_95_code k268 = true := fw_x (by decide +kernel)
set_option maxRecDepth 100000 in
theorem xf_269 : xdc prog_14_method_96_code k269 = true := fw_x (by decide +kernel)
set_option maxRecDepth 100000 in
theorem xf_270 : xdc prog_14_method_97_code k270 = true := fw_x (by decide +kernel)
set_option maxRecDepth 100000 in
theorem xf_271 : xdc prog_14_method_98_code k271 = true := fw_x (by decide +kernel)
set_option maxRecDepth 100000 in
theorem xf_272 : xdc prog_14_method_99_code k272 = true := fw_x (by decide +kernel)
set_option maxRecDepth 100000 in
theorem xf_273 : xdc prog_15_method_49_code k273 = true := fw_x (by decide +kernel)
set_option maxRecDepth 100000 in
theorem xf_274 : xdc prog_16_method_65_code k274 = true := fw_x (by decide +kernel)
set_option maxRecDepth 100000 in
theorem xf_275 : xdc prog_16_method_69_code k275 = true := fw_x (by decide +kernel)
set_option maxRecDepth 100000 in
theorem xf_276 : xdc code k276 = true := fw_x (by decide +kernel)
