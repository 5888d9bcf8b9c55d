noncomputable section
/-! the bounded machine's step, quicker: an instruction is sorted once, by number -/
/-- what stands behind a call that is found -/
def jcl (E : jE) (bot : jS → Option jV → Bool) (rc : jRc) (dd : Nat) (fr : List jFr) (cx : List jHd) (m : Nat) (q : xQ) (pc : Nat) (ls : jL) (st : List jV) (g : jS) (r : Option (Nat × List jV × List jV)) : Bool := match r with
  | none => false
  | some (y, as, rest) => match xM[y]? with
    | none => false
    | some q' => Nat.ble (jcs g rest) 8 && Nat.ble (jcs g as) q'.2.1 && (match jcf E.1 g y as E.2.2.1 with
      | some c => Nat.ble c.2.1 dd && c.2.2.2.2.1.all (fun w => bif Nat.beq w.2 9999 then jwa E.2.1 w.1 else jw E.2.1 w.1 w.2) && c.2.2.2.2.2.all (fun o => match jco E.1 g c o with
        | some z => rc false (dd + 1) fr cx m q (pc + 3) ls (z.1.toList ++ rest) z.2
        | none => false)
      | none => jkw g as && rc false dd ((m, q, pc + 3, ls, rest, cx) :: fr) [] y q' 0 (jlv g 0 as) [] g)
/-- what stands behind an end -/
def jqe (E : jE) (bot : jS → Option jV → Bool) (rc : jRc) (dd : Nat) (fr : List jFr) (cx : List jHd) (m : Nat) (q : xQ) (pc : Nat) (ls : jL) (st : List jV) (g : jS) (r : Option (Option jV)) : Bool := match r with
  | some rv => (match fr with
    | [] => bot g rv
    | f :: fr => rc false (dd + 1) fr f.2.2.2.2.2 f.1 f.2.1 f.2.2.1 f.2.2.2.1 (rv.toList ++ f.2.2.2.2.1) g)
  | none => false
def jol (E : jE) (bot : jS → Option jV → Bool) (rc : jRc) (dd : Nat) (fr : List jFr) (cx : List jHd) (m : Nat) (q : xQ) (pc : Nat) (ls : jL) (st : List jV) (g : jS) (i : Instr) : Bool := match jx1 q.1 q.2.1 i ls st g with
  | some z => rc false dd fr cx m q (pc + xil i) z.1 z.2.1 z.2.2
  | none => match jbr i pc st g with
    | some l => l.all fun t => rc false dd fr cx m q t.1 ls t.2.1 t.2.2
    | none => match jho E.1 E.2.1 q.1 i st g with
      | some z => rc false dd fr cx m q (pc + xil i) ls z.1 z.2
      | none => match jrt q.2.2.2.1 i st g with
        | some rv => (match fr with
          | [] => bot g rv
          | f :: fr => rc false (dd + 1) fr f.2.2.2.2.2 f.1 f.2.1 f.2.2.1 f.2.2.2.1 (rv.toList ++ f.2.2.2.2.1) g)
        | none => match dd with
          | 0 => false
          | dd + 1 => match jmm q.1 i st g with
            | some z => Nat.ble (jcs g (z.1.drop 1)) 7 && rc false (dd + 1) fr cx m q (pc + 3) ls z.1 z.2
            | none => match jay E.1 E.2.1 q.1 i st g with
              | some z => Nat.ble (jcs g z.1) 8 && rc false (dd + 1) fr cx m q (pc + 3) ls z.1 z.2
              | none => jcl E bot rc dd fr cx m q pc ls st g (jca E.1 q.1 i st)
def jxc (E : jE) (bot : jS → Option jV → Bool) (rc : jRc) (dd : Nat) (fr : List jFr) (cx : List jHd) (m : Nat) (q : xQ) (pc : Nat) (ls : jL) (st : List jV) (g : jS) (sk : Bool) (tl : Instr → Bool) : Bool :=
  match (bif sk then none else jan E.2.2.2.1 m pc) with
    | some A => jmt st && (match jhf cx pc with
      | some d => jfit d g ls && jms d g ls
      | none => match jen E.1 A g ls with
        | some z => (jfit z.1 z.2 ls && (jcv z.1 z.2 ls).isSome) && rc true dd fr (z.1 :: cx) m q pc (jhv z.1) [] (jhs z.1)
        | none => false)
    | none => match jsl E sk m pc ls st g with
      | some z => z.2.all fun k => match jcut 4 g z.1 k k with
        | some g2 => rc true dd fr cx m q pc ls st g2
        | none => true
      | none => match xcg q.2.2.2.2 pc with
        | none => false
        | some i => tl i
theorem jxb_c (E : jE) (bot : jS → Option jV → Bool) (rc : jRc) (dd : Nat) (fr : List jFr) (cx : List jHd) (m : Nat) (q : xQ) (pc : Nat) (ls : jL) (st : List jV) (g : jS) (sk : Bool) : jxb E bot rc sk dd fr cx m q pc ls st g = jxc E bot rc dd fr cx m q pc ls st g sk (jol E bot rc dd fr cx m q pc ls st g) := by
  unfold jxb jxc jol jcl
  rfl
theorem jcl_m {E : jE} {bot : jS → Option jV → Bool} {rc rc2 : jRc} {dd : Nat} {fr : List jFr} {cx : List jHd} {m : Nat} {q : xQ} {pc : Nat} {ls : jL} {st : List jV} {g : jS} (hrc : ∀ sk dd fr cx m q pc ls st g, rc sk dd fr cx m q pc ls st g = true → rc2 sk dd fr cx m q pc ls st g = true) {r : Option (Nat × List jV × List jV)} (h : jcl E bot rc dd fr cx m q pc ls st g r = true) : jcl E bot rc2 dd fr cx m q pc ls st g r = true := by
  unfold jcl at h ⊢
  cases r with
  | none => cases h
  | some r =>
    obtain ⟨y, as, rest⟩ := r
    dsimp only at h ⊢
    cases h1 : xM[y]? with
    | none => rw [h1] at h; cases h
    | some q' =>
      rw [h1] at h
      dsimp only at h ⊢
      rw [Bool.and_eq_true] at h ⊢
      refine ⟨h.1, ?_⟩
      have h := h.2
      cases h2 : jcf E.1 g y as E.2.2.1 with
      | some c =>
        rw [h2] at h
        dsimp only at h ⊢
        rw [Bool.and_eq_true] at h ⊢
        refine ⟨h.1, List.all_eq_true.mpr (fun x hx => ?_)⟩
        have k := List.all_eq_true.mp h.2 x hx
        cases h3 : jco E.1 g c x with
        | some z => rw [h3] at k; exact hrc _ _ _ _ _ _ _ _ _ _ k
        | none => rw [h3] at k; cases k
      | none =>
        rw [h2] at h
        dsimp only at h ⊢
        rw [Bool.and_eq_true] at h ⊢
        exact ⟨h.1, hrc _ _ _ _ _ _ _ _ _ _ h.2⟩
theorem jol_m {E : jE} {bot : jS → Option jV → Bool} {rc rc2 : jRc} {dd : Nat} {fr : List jFr} {cx : List jHd} {m : Nat} {q : xQ} {pc : Nat} {ls : jL} {st : List jV} {g : jS} (hrc : ∀ sk dd fr cx m q pc ls st g, rc sk dd fr cx m q pc ls st g = true → rc2 sk dd fr cx m q pc ls st g = true) {i : Instr} (h : jol E bot rc dd fr cx m q pc ls st g i = true) : jol E bot rc2 dd fr cx m q pc ls st g i = true := by
  unfold jol at h ⊢
  cases h1 : jx1 q.1 q.2.1 i ls st g with
  | some z => rw [h1] at h; exact hrc _ _ _ _ _ _ _ _ _ _ h
  | none =>
    rw [h1] at h
    dsimp only at h ⊢
    cases h2 : jbr i pc st g with
    | some l =>
      rw [h2] at h
      exact List.all_eq_true.mpr (fun x hx => hrc _ _ _ _ _ _ _ _ _ _ (List.all_eq_true.mp h x hx))
    | none =>
      rw [h2] at h
      dsimp only at h ⊢
      cases h3 : jho E.1 E.2.1 q.1 i st g with
      | some z => rw [h3] at h; exact hrc _ _ _ _ _ _ _ _ _ _ h
      | none =>
        rw [h3] at h
        dsimp only at h ⊢
        cases h4 : jrt q.2.2.2.1 i st g with
        | some rv =>
          rw [h4] at h
          dsimp only at h ⊢
          cases fr with
          | nil => exact h
          | cons f fr => exact hrc _ _ _ _ _ _ _ _ _ _ h
        | none =>
          rw [h4] at h
          dsimp only at h ⊢
          cases dd with
          | zero => cases h
          | succ dd =>
            dsimp only at h ⊢
            cases h5 : jmm q.1 i st g with
            | some z =>
              rw [h5] at h
              dsimp only at h ⊢
              rw [Bool.and_eq_true] at h ⊢
              exact ⟨h.1, hrc _ _ _ _ _ _ _ _ _ _ h.2⟩
            | none =>
              rw [h5] at h
              dsimp only at h ⊢
              cases h6 : jay E.1 E.2.1 q.1 i st g with
              | some z =>
                rw [h6] at h
                dsimp only at h ⊢
                rw [Bool.and_eq_true] at h ⊢
                exact ⟨h.1, hrc _ _ _ _ _ _ _ _ _ _ h.2⟩
              | none =>
                rw [h6] at h
                exact jcl_m hrc h
theorem jxc_m {E : jE} {bot : jS → Option jV → Bool} {rc rc2 : jRc} {dd : Nat} {fr : List jFr} {cx : List jHd} {m : Nat} {q : xQ} {pc : Nat} {ls : jL} {st : List jV} {g : jS} (hrc : ∀ sk dd fr cx m q pc ls st g, rc sk dd fr cx m q pc ls st g = true → rc2 sk dd fr cx m q pc ls st g = true) {sk : Bool} {t t2 : Instr → Bool} (ht : ∀ i, t i = true → t2 i = true) (h : jxc E bot rc dd fr cx m q pc ls st g sk t = true) : jxc E bot rc2 dd fr cx m q pc ls st g sk t2 = true := by
  unfold jxc at h ⊢
  cases h1 : (bif sk then none else jan E.2.2.2.1 m pc) with
  | some A =>
    rw [h1] at h
    dsimp only at h ⊢
    rw [Bool.and_eq_true] at h ⊢
    refine ⟨h.1, ?_⟩
    have h := h.2
    cases h2 : jhf cx pc with
    | some d => rw [h2] at h; exact h
    | none =>
      rw [h2] at h
      dsimp only at h ⊢
      cases h3 : jen E.1 A g ls with
      | some z =>
        rw [h3] at h
        dsimp only at h ⊢
        rw [Bool.and_eq_true] at h ⊢
        exact ⟨h.1, hrc _ _ _ _ _ _ _ _ _ _ h.2⟩
      | none => rw [h3] at h; cases h
  | none =>
    rw [h1] at h
    dsimp only at h ⊢
    cases h2 : jsl E sk m pc ls st g with
    | some z =>
      rw [h2] at h
      dsimp only at h ⊢
      refine List.all_eq_true.mpr (fun x hx => ?_)
      have k := List.all_eq_true.mp h x hx
      cases h3 : jcut 4 g z.1 x x with
      | some g2 => rw [h3] at k; exact hrc _ _ _ _ _ _ _ _ _ _ k
      | none => rfl
    | none =>
      rw [h2] at h
      dsimp only at h ⊢
      cases h3 : xcg q.2.2.2.2 pc with
      | none => rw [h3] at h; cases h
      | some i => rw [h3] at h; exact ht i h
/-- an instruction's sort, a number, a number -/
def jce (c : ClassFile.Cond) : Nat := match c with
  | .eq => 0
  | .ne => 1
  | .lt => 2
  | .ge => 3
  | .gt => 4
  | .le => 5
def jdc (n : Nat) : ClassFile.Cond := match n with
  | 0 => .eq
  | 1 => .ne
  | 2 => .lt
  | 3 => .ge
  | 4 => .gt
  | _ => .le
theorem jdc_ce (c : ClassFile.Cond) : jdc (jce c) = c := by cases c <;> rfl
def jmic (i : Instr) : Nat × Nat × Int := match i with
  | .aload_n k => (1, k, 1)
  | .aload k => (1, k, 2)
  | .iload_n k => (2, k, 1)
  | .iload k => (2, k, 2)
  | .iconst n => (3, 0, n)
  | .bipush n => (4, 0, n)
  | .sipush n => (5, 0, n)
  | .istore_n k => (6, k, 1)
  | .istore k => (6, k, 2)
  | .iinc k n => (7, k, n)
  | .iadd => (8, 1, 0)
  | .isub => (8, 2, 0)
  | .imul => (8, 3, 0)
  | .idiv => (8, 4, 0)
  | .irem => (8, 5, 0)
  | .iand => (8, 6, 0)
  | .ior => (8, 7, 0)
  | .ixor => (8, 8, 0)
  | .ishl => (8, 9, 0)
  | .ishr => (8, 10, 0)
  | .getfield k => (9, k, 0)
  | .iaload => (10, 0, 0)
  | .iastore => (11, 0, 0)
  | .putfield k => (12, k, 0)
  | .ifCond c o => (13, jce c, o)
  | .if_icmp c o => (14, jce c, o)
  | .goto o => (15, 0, o)
  | .ireturn => (16, 0, 0)
  | .return_ => (17, 0, 0)
  | .invokevirtual k => (18, k, 0)
  | .dup => (19, 0, 0)
  | .dup2 => (20, 0, 0)
  | .pop => (21, 0, 0)
  | _ => (0, 0, 0)
def jqs (E : jE) (bot : jS → Option jV → Bool) (rc : jRc) (dd : Nat) (fr : List jFr) (cx : List jHd) (m : Nat) (q : xQ) (pc : Nat) (ls : jL) (st : List jV) (g : jS) (n : Nat) (r : Option (jL × List jV × jS)) : Bool := match r with
  | some z => rc false dd fr cx m q (pc + n) z.1 z.2.1 z.2.2
  | none => false
def jqh (E : jE) (bot : jS → Option jV → Bool) (rc : jRc) (dd : Nat) (fr : List jFr) (cx : List jHd) (m : Nat) (q : xQ) (pc : Nat) (ls : jL) (st : List jV) (g : jS) (n : Nat) (r : Option (List jV × jS)) : Bool := match r with
  | some z => rc false dd fr cx m q (pc + n) ls z.1 z.2
  | none => false
def jqb (E : jE) (bot : jS → Option jV → Bool) (rc : jRc) (dd : Nat) (fr : List jFr) (cx : List jHd) (m : Nat) (q : xQ) (pc : Nat) (ls : jL) (st : List jV) (g : jS) (r : Option (List (Nat × List jV × jS))) : Bool := match r with
  | some l => l.all fun t => rc false dd fr cx m q t.1 ls t.2.1 t.2.2
  | none => false
def jqd (dd : Nat) (k : Nat → Bool) : Bool := match dd with
  | 0 => false
  | dd + 1 => k dd
theorem jol_s {E : jE} {bot : jS → Option jV → Bool} {rc : jRc} {dd : Nat} {fr : List jFr} {cx : List jHd} {m : Nat} {q : xQ} {pc : Nat} {ls : jL} {st : List jV} {g : jS} {i : Instr} {n : Nat} {r : Option (jL × List jV × jS)} (h1 : jx1 q.1 q.2.1 i ls st g = r) (hn : xil i = n) (h : jqs E bot rc dd fr cx m q pc ls st g n r = true) : jol E bot rc dd fr cx m q pc ls st g i = true := by
  cases r with
  | none => cases h
  | some z =>
    unfold jol
    rw [h1, hn]
    exact h
theorem jol_h {E : jE} {bot : jS → Option jV → Bool} {rc : jRc} {dd : Nat} {fr : List jFr} {cx : List jHd} {m : Nat} {q : xQ} {pc : Nat} {ls : jL} {st : List jV} {g : jS} {i : Instr} {n : Nat} {r : Option (List jV × jS)} (h1 : jx1 q.1 q.2.1 i ls st g = none) (h2 : jbr i pc st g = none) (h3 : jho E.1 E.2.1 q.1 i st g = r) (hn : xil i = n) (h : jqh E bot rc dd fr cx m q pc ls st g n r = true) : jol E bot rc dd fr cx m q pc ls st g i = true := by
  cases r with
  | none => cases h
  | some z =>
    unfold jol
    rw [h1, h2, h3, hn]
    exact h
theorem jol_b {E : jE} {bot : jS → Option jV → Bool} {rc : jRc} {dd : Nat} {fr : List jFr} {cx : List jHd} {m : Nat} {q : xQ} {pc : Nat} {ls : jL} {st : List jV} {g : jS} {i : Instr} {r : Option (List (Nat × List jV × jS))} (h1 : jx1 q.1 q.2.1 i ls st g = none) (h2 : jbr i pc st g = r) (h : jqb E bot rc dd fr cx m q pc ls st g r = true) : jol E bot rc dd fr cx m q pc ls st g i = true := by
  cases r with
  | none => cases h
  | some z =>
    unfold jol
    rw [h1, h2]
    exact h
theorem jol_r {E : jE} {bot : jS → Option jV → Bool} {rc : jRc} {dd : Nat} {fr : List jFr} {cx : List jHd} {m : Nat} {q : xQ} {pc : Nat} {ls : jL} {st : List jV} {g : jS} {i : Instr} {r : Option (Option jV)} (h1 : jx1 q.1 q.2.1 i ls st g = none) (h2 : jbr i pc st g = none) (h3 : jho E.1 E.2.1 q.1 i st g = none) (h4 : jrt q.2.2.2.1 i st g = r) (h : jqe E bot rc dd fr cx m q pc ls st g r = true) : jol E bot rc dd fr cx m q pc ls st g i = true := by
  cases r with
  | none => cases h
  | some z =>
    unfold jol
    rw [h1, h2, h3, h4]
    exact h
theorem jol_c {E : jE} {bot : jS → Option jV → Bool} {rc : jRc} {dd : Nat} {fr : List jFr} {cx : List jHd} {m : Nat} {q : xQ} {pc : Nat} {ls : jL} {st : List jV} {g : jS} {i : Instr} {r : Option (Nat × List jV × List jV)} (h1 : jx1 q.1 q.2.1 i ls st g = none) (h2 : jbr i pc st g = none) (h3 : jho E.1 E.2.1 q.1 i st g = none) (h4 : jrt q.2.2.2.1 i st g = none) (h5 : jmm q.1 i st g = none) (h6 : jay E.1 E.2.1 q.1 i st g = none) (h7 : jca E.1 q.1 i st = r) (h : jqd dd (fun dd => jcl E bot rc dd fr cx m q pc ls st g r) = true) : jol E bot rc dd fr cx m q pc ls st g i = true := by
  cases dd with
  | zero => cases h
  | succ dd =>
    unfold jol
    rw [h1, h2, h3, h4]
    dsimp only
    rw [h5, h6, h7]
    exact h
def jq_st (nL : Nat) (g : jS) (ls : jL) (k : Nat) (st : List jV) : Option (jL × List jV × jS) := match st with
  | a :: st => bif jin g a 0 (-2147483648) 2147483647 && Nat.blt k nL then some (js1 g ls k a, st, g) else none
  | [] => none
def jq_ii (nL : Nat) (g : jS) (ls : jL) (k : Nat) (n : Int) (st : List jV) : Option (jL × List jV × jS) := match jld g ls k 0 with
  | some a => bif Nat.blt k nL then (jar g 1 a (.inl (.int (Int32.ofInt n)))).map fun z => (js1 z.2 ls k z.1, st, z.2) else none
  | none => none
def jq_op (o : Nat) (g : jS) (ls : jL) (st : List jV) : Option (jL × List jV × jS) := match st with
  | a :: b :: st => (jar g o b a).map fun z => (ls, z.1 :: st, z.2)
  | _ => none
def jq_du (g : jS) (ls : jL) (st : List jV) : Option (jL × List jV × jS) := match st with
  | a :: st => bif Nat.beq (jcat g a) 1 then some (ls, a :: a :: st, g) else none
  | [] => none
def jq_d2 (g : jS) (ls : jL) (st : List jV) : Option (jL × List jV × jS) := match st with
  | a :: b :: st => bif Nat.beq (jcat g a) 1 && Nat.beq (jcat g b) 1 then some (ls, a :: b :: a :: b :: st, g) else none
  | _ => none
def jq_po (g : jS) (ls : jL) (st : List jV) : Option (jL × List jV × jS) := match st with
  | a :: st => bif Nat.beq (jcat g a) 1 then some (ls, st, g) else none
  | [] => none
def jq_gf (G : jGt) (own idx : Nat) (st : List jV) (g : jS) : Option (List jV × jS) := match st with
  | .inl (.ref r) :: st => (match xtb xF own idx, jgc G r with
    | some (ci, k, _), some (t, _) => bif Nat.beq t ci then (jfl G g r k).map fun z => (z.1 :: st, z.2) else none
    | _, _ => none)
  | _ => none
def jq_pf (G : jGt) (W : List (Nat × Nat)) (own idx : Nat) (st : List jV) (g : jS) : Option (List jV × jS) := match st with
  | a :: .inl (.ref r) :: st => (match xtb xF own idx, jgc G r with
    | some (ci, k, _), some (t, _) => bif Nat.beq t ci then
        match xT[ci]? with
        | some cs => match cs[k]? with
          | some c => bif Nat.blt c 2 && (Nat.beq c 0 || jin g a 0 0 1) then (jpt G W g r k a).map fun g => (st, g) else none
          | none => none
        | none => none
      else none
    | _, _ => none)
  | _ => none
def jq_al (G : jGt) (st : List jV) (g : jS) : Option (List jV × jS) := match st with
  | j :: .inl (.ref r) :: st => (jal G g 100 r j).map fun z => (z.1 :: st, z.2)
  | j :: .inl (.retAddr q) :: st => (jst g q j).map fun z => (z.1 :: st, z.2)
  | _ => none
def jq_as (G : jGt) (W : List (Nat × Nat)) (st : List jV) (g : jS) : Option (List jV × jS) := match st with
  | a :: j :: .inl (.ref r) :: st => (jas G W g 100 r j a).map fun g => (st, g)
  | _ => none
def jq_if (c : ClassFile.Cond) (o : Int) (pc : Nat) (st : List jV) (g : jS) : Option (List (Nat × List jV × jS)) := match st with
  | a :: st => (match jbd g a, xtg pc o with
    | some (0, _, _), some t => match jlc g a with
      | some p => some (jb2 g c p.1 p.2 t (pc + 3) st)
      | none => some (jb2 g c a (.inl (.int 0)) t (pc + 3) st)
    | _, _ => none)
  | [] => none
def jq_ic (c : ClassFile.Cond) (o : Int) (pc : Nat) (st : List jV) (g : jS) : Option (List (Nat × List jV × jS)) := match st with
  | b :: a :: st => (match jbd g a, jbd g b, xtg pc o with
    | some (0, _, _), some (0, _, _), some t => some (jb2 g c a b t (pc + 3) st)
    | _, _, _ => none)
  | _ => none
def jq_ir (ret : Nat) (st : List jV) (g : jS) : Option (Option jV) := match st with
  | [a] => bif Nat.beq ret 1 && jin g a 0 (-2147483648) 2147483647 then some (some (jnm g a)) else bif Nat.beq ret 2 && jin g a 0 0 1 then some (some (jnm g a)) else none
  | _ => none
def jq_rv (ret : Nat) (st : List jV) : Option (Option jV) := match st with
  | [] => bif Nat.beq ret 0 then some none else none
  | _ => none
def jq_iv (G : jGt) (own idx : Nat) (st : List jV) : Option (Nat × List jV × List jV) := match xtb xC own idx with
    | some (y, n, _, nest) => match xM[y]?, jtk n [] st with
      | some (o, _, kind, _), some (as, .inl (.ref r) :: rest) => match jgc G r with
        | some (t, _) => bif Nat.blt y xOw && Nat.beq kind 1 && Nat.beq nest 0 && Nat.beq t o && Nat.blt t 13 then some (y, .inl (.ref r) :: as, rest) else none
        | none => none
      | _, _ => none
    | none => none
def jqg0 (E : jE) (bot : jS → Option jV → Bool) (rc : jRc) (dd : Nat) (fr : List jFr) (cx : List jHd) (m : Nat) (q : xQ) (pc : Nat) (ls : jL) (st : List jV) (g : jS) (rl rs : jRc) (i : Instr) (o a : Nat) (x : Int) : Bool := bif Nat.ble o 1 then (bif Nat.ble o 0 then (jol E bot rc dd fr cx m q pc ls st g i) else (jqs E bot rl dd fr cx m q pc ls st g x.toNat ((jlr ls a).map fun v => (ls, v :: st, g)))) else (bif Nat.ble o 2 then (jqs E bot rl dd fr cx m q pc ls st g x.toNat ((jld g ls a 0).map fun v => (ls, v :: st, g))) else (jqs E bot rl dd fr cx m q pc ls st g 1 (some (ls, .inl (.int (Int32.ofInt x)) :: st, g))))
def jqg1 (E : jE) (bot : jS → Option jV → Bool) (rc : jRc) (dd : Nat) (fr : List jFr) (cx : List jHd) (m : Nat) (q : xQ) (pc : Nat) (ls : jL) (st : List jV) (g : jS) (rl rs : jRc) (i : Instr) (o a : Nat) (x : Int) : Bool := bif Nat.ble o 6 then (bif Nat.ble o 5 then (bif Nat.ble o 4 then (jqs E bot rl dd fr cx m q pc ls st g 2 (some (ls, .inl (.int (Int8.ofInt x).toInt32) :: st, g))) else (jqs E bot rl dd fr cx m q pc ls st g 3 (some (ls, .inl (.int (Int16.ofInt x).toInt32) :: st, g)))) else (jqs E bot rs dd fr cx m q pc ls st g x.toNat (jq_st q.2.1 g ls a st))) else (bif Nat.ble o 7 then (jqs E bot rs dd fr cx m q pc ls st g 3 (jq_ii q.2.1 g ls a x st)) else (jqs E bot rl dd fr cx m q pc ls st g 1 (jq_op a g ls st)))
def jqg2 (E : jE) (bot : jS → Option jV → Bool) (rc : jRc) (dd : Nat) (fr : List jFr) (cx : List jHd) (m : Nat) (q : xQ) (pc : Nat) (ls : jL) (st : List jV) (g : jS) (rl rs : jRc) (i : Instr) (o a : Nat) (x : Int) : Bool := bif Nat.ble o 10 then (bif Nat.ble o 9 then (jqh E bot rl dd fr cx m q pc ls st g 3 (jq_gf E.1 q.1 a st g)) else (jqh E bot rl dd fr cx m q pc ls st g 1 (jq_al E.1 st g))) else (bif Nat.ble o 11 then (jqh E bot rc dd fr cx m q pc ls st g 1 (jq_as E.1 E.2.1 st g)) else (jqh E bot rc dd fr cx m q pc ls st g 3 (jq_pf E.1 E.2.1 q.1 a st g)))
def jqg3 (E : jE) (bot : jS → Option jV → Bool) (rc : jRc) (dd : Nat) (fr : List jFr) (cx : List jHd) (m : Nat) (q : xQ) (pc : Nat) (ls : jL) (st : List jV) (g : jS) (rl rs : jRc) (i : Instr) (o a : Nat) (x : Int) : Bool := bif Nat.ble o 15 then (bif Nat.ble o 14 then (bif Nat.ble o 13 then (jqb E bot rc dd fr cx m q pc ls st g (jq_if (jdc a) x pc st g)) else (jqb E bot rc dd fr cx m q pc ls st g (jq_ic (jdc a) x pc st g))) else (jqb E bot rc dd fr cx m q pc ls st g ((xtg pc x).map fun t => [(t, st, g)]))) else (bif Nat.ble o 16 then (jqe E bot rc dd fr cx m q pc ls st g (jq_ir q.2.2.2.1 st g)) else (jqe E bot rc dd fr cx m q pc ls st g (jq_rv q.2.2.2.1 st)))
def jqg4 (E : jE) (bot : jS → Option jV → Bool) (rc : jRc) (dd : Nat) (fr : List jFr) (cx : List jHd) (m : Nat) (q : xQ) (pc : Nat) (ls : jL) (st : List jV) (g : jS) (rl rs : jRc) (i : Instr) (o a : Nat) (x : Int) : Bool := bif Nat.ble o 19 then (bif Nat.ble o 18 then (jqd dd (fun dd => jcl E bot rc dd fr cx m q pc ls st g (jq_iv E.1 q.1 a st))) else (jqs E bot rl dd fr cx m q pc ls st g 1 (jq_du g ls st))) else (bif Nat.ble o 20 then (jqs E bot rl dd fr cx m q pc ls st g 1 (jq_d2 g ls st)) else (jqs E bot rl dd fr cx m q pc ls st g 1 (jq_po g ls st)))
def jq1 (E : jE) (bot : jS → Option jV → Bool) (rc : jRc) (dd : Nat) (fr : List jFr) (cx : List jHd) (m : Nat) (q : xQ) (pc : Nat) (ls : jL) (st : List jV) (g : jS) (rl rs : jRc) (i : Instr) (o a : Nat) (x : Int) : Bool := bif Nat.ble o 8 then (bif Nat.ble o 3 then (jqg0 E bot rc dd fr cx m q pc ls st g rl rs i o a x) else (jqg1 E bot rc dd fr cx m q pc ls st g rl rs i o a x)) else (bif Nat.ble o 12 then (jqg2 E bot rc dd fr cx m q pc ls st g rl rs i o a x) else (bif Nat.ble o 17 then (jqg3 E bot rc dd fr cx m q pc ls st g rl rs i o a x) else (jqg4 E bot rc dd fr cx m q pc ls st g rl rs i o a x)))
def jq0 (E : jE) (bot : jS → Option jV → Bool) (rc : jRc) (dd : Nat) (fr : List jFr) (cx : List jHd) (m : Nat) (q : xQ) (pc : Nat) (ls : jL) (st : List jV) (g : jS) (rl rs : jRc) (i : Instr) : Bool := jfn (jmic i).1 fun o => jfn (jmic i).2.1 fun a => jq1 E bot rc dd fr cx m q pc ls st g rl rs i o a (jmic i).2.2
theorem jq0_ok {E : jE} {bot : jS → Option jV → Bool} {rc : jRc} {dd : Nat} {fr : List jFr} {cx : List jHd} {m : Nat} {q : xQ} {pc : Nat} {ls : jL} {st : List jV} {g : jS} {rl rs : jRc} (hl : rc = rl) (hs : rc = rs) {i : Instr} (h : jq0 E bot rc dd fr cx m q pc ls st g rl rs i = true) : jol E bot rc dd fr cx m q pc ls st g i = true := by
  subst hl
  subst hs
  unfold jq0 at h
  rw [jfn_eq, jfn_eq] at h
  cases i with
  | aload_n k => exact jol_s rfl rfl h
  | aload k => exact jol_s rfl rfl h
  | iload_n k => exact jol_s rfl rfl h
  | iload k => exact jol_s rfl rfl h
  | iconst n => exact jol_s rfl rfl h
  | bipush n => exact jol_s rfl rfl h
  | sipush n => exact jol_s rfl rfl h
  | istore_n k => exact jol_s (show _ = jq_st q.2.1 g ls k st from by rcases st with _ | ⟨_, _ | ⟨_, _⟩⟩ <;> rfl) rfl h
  | istore k => exact jol_s (show _ = jq_st q.2.1 g ls k st from by rcases st with _ | ⟨_, _ | ⟨_, _⟩⟩ <;> rfl) rfl h
  | iinc k n => exact jol_s (show _ = jq_ii q.2.1 g ls k n st from rfl) rfl h
  | iadd => exact jol_s (show _ = jq_op 1 g ls st from by rcases st with _ | ⟨_, _ | ⟨_, _⟩⟩ <;> rfl) rfl h
  | isub => exact jol_s (show _ = jq_op 2 g ls st from by rcases st with _ | ⟨_, _ | ⟨_, _⟩⟩ <;> rfl) rfl h
  | imul => exact jol_s (show _ = jq_op 3 g ls st from by rcases st with _ | ⟨_, _ | ⟨_, _⟩⟩ <;> rfl) rfl h
  | idiv => exact jol_s (show _ = jq_op 4 g ls st from by rcases st with _ | ⟨_, _ | ⟨_, _⟩⟩ <;> rfl) rfl h
  | irem => exact jol_s (show _ = jq_op 5 g ls st from by rcases st with _ | ⟨_, _ | ⟨_, _⟩⟩ <;> rfl) rfl h
  | iand => exact jol_s (show _ = jq_op 6 g ls st from by rcases st with _ | ⟨_, _ | ⟨_, _⟩⟩ <;> rfl) rfl h
  | ior => exact jol_s (show _ = jq_op 7 g ls st from by rcases st with _ | ⟨_, _ | ⟨_, _⟩⟩ <;> rfl) rfl h
  | ixor => exact jol_s (show _ = jq_op 8 g ls st from by rcases st with _ | ⟨_, _ | ⟨_, _⟩⟩ <;> rfl) rfl h
  | ishl => exact jol_s (show _ = jq_op 9 g ls st from by rcases st with _ | ⟨_, _ | ⟨_, _⟩⟩ <;> rfl) rfl h
  | ishr => exact jol_s (show _ = jq_op 10 g ls st from by rcases st with _ | ⟨_, _ | ⟨_, _⟩⟩ <;> rfl) rfl h
  | getfield k => exact jol_h (by rcases st with _ | ⟨_, _ | ⟨_, _⟩⟩ <;> rfl) (by rcases st with _ | ⟨_, _ | ⟨_, _⟩⟩ <;> rfl) (show _ = jq_gf E.1 q.1 k st g from by rcases st with _ | ⟨(v | _), _⟩ <;> first | rfl | (cases v <;> rfl)) rfl h
  | iaload => exact jol_h (by rcases st with _ | ⟨_, _ | ⟨_, _⟩⟩ <;> rfl) (by rcases st with _ | ⟨_, _ | ⟨_, _⟩⟩ <;> rfl) (show _ = jq_al E.1 st g from by rcases st with _ | ⟨_, _ | ⟨(v | _), _⟩⟩ <;> first | rfl | (cases v <;> rfl)) rfl h
  | iastore => exact jol_h (by rcases st with _ | ⟨_, _ | ⟨_, _⟩⟩ <;> rfl) (by rcases st with _ | ⟨_, _ | ⟨_, _⟩⟩ <;> rfl) (show _ = jq_as E.1 E.2.1 st g from by rcases st with _ | ⟨_, _ | ⟨_, _ | ⟨(v | _), _⟩⟩⟩ <;> first | rfl | (cases v <;> rfl)) rfl h
  | putfield k => exact jol_h (by rcases st with _ | ⟨_, _ | ⟨_, _⟩⟩ <;> rfl) (by rcases st with _ | ⟨_, _ | ⟨_, _⟩⟩ <;> rfl) (show _ = jq_pf E.1 E.2.1 q.1 k st g from by rcases st with _ | ⟨_, _ | ⟨(v | _), _⟩⟩ <;> first | rfl | (cases v <;> rfl)) rfl h
  | ifCond c o => exact jol_b (by rcases st with _ | ⟨_, _ | ⟨_, _⟩⟩ <;> rfl) (show _ = jq_if c o pc st g from by rcases st with _ | ⟨_, _ | ⟨_, _⟩⟩ <;> rfl) (by have h : jqb E bot rc dd fr cx m q pc ls st g (jq_if (jdc (jce c)) o pc st g) = true := h; rw [jdc_ce] at h; exact h)
  | if_icmp c o => exact jol_b (by rcases st with _ | ⟨_, _ | ⟨_, _⟩⟩ <;> rfl) (show _ = jq_ic c o pc st g from by rcases st with _ | ⟨_, _ | ⟨_, _⟩⟩ <;> rfl) (by have h : jqb E bot rc dd fr cx m q pc ls st g (jq_ic (jdc (jce c)) o pc st g) = true := h; rw [jdc_ce] at h; exact h)
  | goto o => exact jol_b (by rcases st with _ | ⟨_, _ | ⟨_, _⟩⟩ <;> rfl) (show _ = (xtg pc o).map (fun t => [(t, st, g)]) from by rcases st with _ | ⟨_, _ | ⟨_, _⟩⟩ <;> rfl) h
  | ireturn => exact jol_r (by rcases st with _ | ⟨_, _ | ⟨_, _⟩⟩ <;> rfl) (by rcases st with _ | ⟨_, _ | ⟨_, _⟩⟩ <;> rfl) (by rcases st with _ | ⟨_, _ | ⟨_, _⟩⟩ <;> rfl) (show _ = jq_ir q.2.2.2.1 st g from by rcases st with _ | ⟨_, _ | ⟨_, _⟩⟩ <;> rfl) h
  | return_ => exact jol_r (by rcases st with _ | ⟨_, _ | ⟨_, _⟩⟩ <;> rfl) (by rcases st with _ | ⟨_, _ | ⟨_, _⟩⟩ <;> rfl) (by rcases st with _ | ⟨_, _ | ⟨_, _⟩⟩ <;> rfl) (show _ = jq_rv q.2.2.2.1 st from by rcases st with _ | ⟨_, _ | ⟨_, _⟩⟩ <;> rfl) h
  | invokevirtual k => exact jol_c (by rcases st with _ | ⟨_, _ | ⟨_, _⟩⟩ <;> rfl) (by rcases st with _ | ⟨_, _ | ⟨_, _⟩⟩ <;> rfl) (by rcases st with _ | ⟨_, _ | ⟨_, _⟩⟩ <;> rfl) (by rcases st with _ | ⟨_, _ | ⟨_, _⟩⟩ <;> rfl) (by rcases st with _ | ⟨_, _ | ⟨_, _⟩⟩ <;> rfl) (by rcases st with _ | ⟨_, _ | ⟨_, _⟩⟩ <;> rfl) (show _ = jq_iv E.1 q.1 k st from rfl) h
  | dup => exact jol_s (show _ = jq_du g ls st from by rcases st with _ | ⟨_, _ | ⟨_, _⟩⟩ <;> rfl) rfl h
  | dup2 => exact jol_s (show _ = jq_d2 g ls st from by rcases st with _ | ⟨_, _ | ⟨_, _⟩⟩ <;> rfl) rfl h
  | pop => exact jol_s (show _ = jq_po g ls st from by rcases st with _ | ⟨_, _ | ⟨_, _⟩⟩ <;> rfl) rfl h
  | _ => exact h
/-- work out a list's first places -/
def jfh {α : Type} (n : Nat) (l : List α) (k : List α → Bool) : Bool := Nat.rec (motive := fun _ => List α → (List α → Bool) → Bool) (fun l k => k l) (fun _ ih l k => List.rec (motive := fun _ => Bool) (k []) (fun a r _ => ih r fun r => k (a :: r)) l) n l k
theorem jfh_eq {α : Type} : ∀ (n : Nat) (l : List α) (k : List α → Bool), jfh n l k = k l
  | 0, _, _ => rfl
  | _ + 1, [], _ => rfl
  | n + 1, a :: l, k => by
    show jfh n l (fun l => k (a :: l)) = _
    rw [jfh_eq n l]
def jzF (rc : jRc) : jRc := fun sk dd fr cx m q pc ls st g => jfn pc fun pc => jf1 ls fun ls => jf1 st fun st => jfn g.1 fun x => jfh 12 g.2.1 fun tb => jf1 g.2.2.1 fun mf => jf1 g.2.2.2 fun ml => rc sk dd fr cx m q pc ls st (x, tb, mf, ml)
def jzL (rc : jRc) : jRc := fun sk dd fr cx m q pc ls st g => jfn pc fun pc => jfh 1 ls fun ls => jfh 2 st fun st => jfn g.1 fun x => jfh 2 g.2.1 fun tb => jfh 1 g.2.2.1 fun mf => jfh 1 g.2.2.2 fun ml => rc sk dd fr cx m q pc ls st (x, tb, mf, ml)
def jzS (rc : jRc) : jRc := fun sk dd fr cx m q pc ls st g => jfn pc fun pc => jf1 ls fun ls => jfh 1 st fun st => jfn g.1 fun x => jfh 2 g.2.1 fun tb => jfh 1 g.2.2.1 fun mf => jfh 1 g.2.2.2 fun ml => rc sk dd fr cx m q pc ls st (x, tb, mf, ml)
theorem jzF_eq (rc : jRc) : jzF rc = rc := by
  funext sk dd fr cx m q pc ls st g
  unfold jzF
  simp only [jfn_eq, jf1_eq, jfh_eq]
theorem jzL_eq (rc : jRc) : jzL rc = rc := by
  funext sk dd fr cx m q pc ls st g
  unfold jzL
  simp only [jfn_eq, jfh_eq]
theorem jzS_eq (rc : jRc) : jzS rc = rc := by
  funext sk dd fr cx m q pc ls st g
  unfold jzS
  simp only [jfn_eq, jf1_eq, jfh_eq]
def jxq (E : jE) (bot : jS → Option jV → Bool) (n : Nat) : jRc := Nat.rec (motive := fun _ => jRc) (fun _ _ _ _ _ _ _ _ _ _ => false) (fun _ ih sk dd fr cx m q pc ls st g => jxc E bot (jzF ih) dd fr cx m q pc ls st g sk (jq0 E bot (jzF ih) dd fr cx m q pc ls st g (jzL ih) (jzS ih))) n
theorem jxq_s {E : jE} {bot : jS → Option jV → Bool} {n : Nat} {sk : Bool} {dd : Nat} {fr : List jFr} {cx : List jHd} {m : Nat} {q : xQ} {pc : Nat} {ls : jL} {st : List jV} {g : jS} : jxq E bot (n + 1) sk dd fr cx m q pc ls st g = jxc E bot (jzF (jxq E bot n)) dd fr cx m q pc ls st g sk (jq0 E bot (jzF (jxq E bot n)) dd fr cx m q pc ls st g (jzL (jxq E bot n)) (jzS (jxq E bot n))) := rfl
theorem jxq_ok {E : jE} {bot : jS → Option jV → Bool} : ∀ (n : Nat) (sk : Bool) (dd : Nat) (fr : List jFr) (cx : List jHd) (m : Nat) (q : xQ) (pc : Nat) (ls : jL) (st : List jV) (g : jS), jxq E bot n sk dd fr cx m q pc ls st g = true → jx E bot n sk dd fr cx m q pc ls st g = true
  | 0, _, _, _, _, _, _, _, _, _, _, h => absurd (show false = true from h) (by decide)
  | n + 1, sk, dd, fr, cx, m, q, pc, ls, st, g, h => by
    rw [jxq_s, jzF_eq] at h
    rw [jx_succ, jxb_c]
    exact jxc_m (jxq_ok n) (fun i hi => jol_m (jxq_ok n) (jq0_ok (jzL_eq _).symm (jzS_eq _).symm hi)) h
def jckq (cs : List jC) (c : jC) (la : List jA) (ls : List ((Nat × Nat) × Nat)) : Bool := match xM[c.1]? with
  | some q => match jfo jGG (jnf (jia (0, [], [], []) c.2.2.1).2 c.2.2.2.1 (c.2.2.2.1.map fun _ => .inl (.int 0))) c.2.2.2.2.2 with
    | some z => (c.2.2.2.1.all (fun f => !f.2.2.2) && jkw z.2 (jia (0, [], [], []) c.2.2.1).1) && jxq (jGG, c.2.2.2.2.1, cs, la, ls) (jbt c.2.2.2.2.2 z.1) 100000 false c.2.1 [] [] c.1 q 0 (jlv z.2 0 (jia (0, [], [], []) c.2.2.1).1) [] z.2
    | none => false
  | none => false
theorem jckq_t {cs : List jC} {c : jC} {la : List jA} {ls : List ((Nat × Nat) × Nat)} (h : jckq cs c la ls = true) : jck cs c la ls = true := by
  unfold jckq at h
  unfold jck
  cases h1 : xM[c.1]? with
  | none => rw [h1] at h; cases h
  | some q =>
    rw [h1] at h
    dsimp only at h ⊢
    cases h2 : jfo jGG (jnf (jia (0, [], [], []) c.2.2.1).2 c.2.2.2.1 (c.2.2.2.1.map fun _ => .inl (.int 0))) c.2.2.2.2.2 with
    | none => rw [h2] at h; cases h
    | some z =>
      rw [h2] at h
      dsimp only at h ⊢
      rw [Bool.and_eq_true] at h ⊢
      exact ⟨h.1, jxq_ok _ _ _ _ _ _ _ _ _ _ _ h.2⟩
end
