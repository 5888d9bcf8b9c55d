/-! intervals: what the pure machine does from all states between bounds, as far as no jump hangs on it -/
abbrev aV : Type := Value ⊕ (Bool × Int × Int)
abbrev aL : Type := List (Nat × aV)
abbrev aH : Type := List (Nat × List aV)
def aG (a : aV) (w : Value) : Prop := match a with
  | .inl v => w = v
  | .inr (false, lo, hi) => ∃ x : Int32, w = .int x ∧ lo ≤ x.toInt ∧ x.toInt ≤ hi
  | .inr (true, lo, hi) => ∃ x : Int64, w = .long x ∧ lo ≤ x.toInt ∧ x.toInt ≤ hi
def aGl : List aV → List Value → Prop
  | [], [] => True
  | a :: as, v :: vs => aG a v ∧ aGl as vs
  | _, _ => False
def aGL : aL → xL → Prop
  | [], [] => True
  | a :: as, v :: vs => (a.1 = v.1 ∧ aG a.2 v.2) ∧ aGL as vs
  | _, _ => False
def aGH : aH → xH → Prop
  | [], [] => True
  | a :: as, v :: vs => (a.1 = v.1 ∧ aGl a.2 v.2) ∧ aGH as vs
  | _, _ => False
theorem aGl_cons {a : aV} {as : List aV} {st : List Value} (h : aGl (a :: as) st) : ∃ v vs, st = v :: vs ∧ aG a v ∧ aGl as vs := by
  cases st with
  | nil => exact absurd h (by simp [aGl])
  | cons v vs => exact ⟨v, vs, rfl, h⟩
theorem aGl_nil {st : List Value} (h : aGl [] st) : st = [] := by
  cases st with
  | nil => rfl
  | cons v vs => exact absurd h (by simp [aGl])
/-- bounds of an int, of a long -/
def ai (a : aV) : Option (Int × Int) := match a with
  | .inl (.int x) => some (x.toInt, x.toInt)
  | .inr (false, lo, hi) => some (lo, hi)
  | _ => none
def aj (a : aV) : Option (Int × Int) := match a with
  | .inl (.long x) => some (x.toInt, x.toInt)
  | .inr (true, lo, hi) => some (lo, hi)
  | _ => none
theorem ai_ok {a : aV} {lo hi : Int} {w : Value} (h : ai a = some (lo, hi)) (g : aG a w) : ∃ x : Int32, w = .int x ∧ lo ≤ x.toInt ∧ x.toInt ≤ hi := by
  unfold ai at h
  split at h
  next x => cases h; exact ⟨x, g, Int.le_refl _, Int.le_refl _⟩
  next => cases h; exact g
  next => cases h
theorem aj_ok {a : aV} {lo hi : Int} {w : Value} (h : aj a = some (lo, hi)) (g : aG a w) : ∃ x : Int64, w = .long x ∧ lo ≤ x.toInt ∧ x.toInt ≤ hi := by
  unfold aj at h
  split at h
  next x => cases h; exact ⟨x, g, Int.le_refl _, Int.le_refl _⟩
  next => cases h; exact g
  next => cases h
def aT : aV := .inr (false, -2147483648, 2147483647)
def aTL : aV := .inr (true, -9223372036854775808, 9223372036854775807)
theorem aT_ok (x : Int32) : aG aT (.int x) := ⟨x, rfl, Int32.le_toInt x, by have := Int32.toInt_lt x; omega⟩
theorem aTL_ok (x : Int64) : aG aTL (.long x) := ⟨x, rfl, Int64.le_toInt x, by have := Int64.toInt_lt x; omega⟩
def acat (a : aV) : Nat := match a with
  | .inl v => v.category
  | .inr (false, _, _) => 1
  | .inr (true, _, _) => 2
theorem acat_ok {a : aV} {w : Value} (g : aG a w) : w.category = acat a := by
  unfold aG at g
  unfold acat
  split at g
  · rw [g]
  · obtain ⟨x, rfl, -⟩ := g; rfl
  · obtain ⟨x, rfl, -⟩ := g; rfl
def axs_1 (ls : aL) (i : Nat) (v : aV) : aL := (i, v) :: ls.filter (fun q => !(q.1 == i) && !(q.1 + 1 == i && acat q.2 == 2))
theorem aGL_filter {f : Nat → Nat → Bool} : ∀ {as : aL} {ls : xL}, aGL as ls → aGL (as.filter (fun q => f q.1 (acat q.2))) (ls.filter (fun q => f q.1 q.2.category))
  | [], [], _ => by simp [aGL]
  | [], _ :: _, h => absurd h (by simp [aGL])
  | _ :: _, [], h => absurd h (by simp [aGL])
  | a :: as, v :: vs, h => by
    obtain ⟨⟨h1, h2⟩, h3⟩ := h
    have ih := aGL_filter (f := f) h3
    rw [List.filter_cons, List.filter_cons, h1, acat_ok h2]
    split
    · exact ⟨⟨h1, h2⟩, ih⟩
    · exact ih
theorem axs_1_ok {as : aL} {ls : xL} (h : aGL as ls) (i : Nat) {a : aV} {v : Value} (g : aG a v) : aGL (axs_1 as i a) (xs_1 ls i v) :=
  ⟨⟨rfl, g⟩, aGL_filter (f := fun n c => !(n == i) && !(n + 1 == i && c == 2)) h⟩
theorem aGL_get : ∀ {as : aL} {ls : xL}, aGL as ls → ∀ {k : Nat} {a : aV}, xfd as k = some a → ∃ v, xfd ls k = some v ∧ aG a v
  | [], [], _, k, a, e => by cases e
  | [], _ :: _, h, _, _, _ => absurd h (by simp [aGL])
  | _ :: _, [], h, _, _, _ => absurd h (by simp [aGL])
  | q :: as, v :: vs, h, k, a, e => by
    obtain ⟨⟨h1, h2⟩, h3⟩ := h
    unfold xfd at e ⊢
    rw [← h1]
    cases hb : Nat.beq q.1 k with
    | true => rw [hb] at e; cases e; exact ⟨v.2, rfl, h2⟩
    | false => rw [hb] at e; exact aGL_get h3 e
def abop (i : Instr) : Option (Int32 → Int32 → Int32) := match i with
  | .iadd => some fun x y => x + y
  | .isub => some fun x y => x - y
  | .imul => some fun x y => x * y
  | .iand => some fun x y => x &&& y
  | .ior => some fun x y => x ||| y
  | .ixor => some fun x y => x ^^^ y
  | .ishl => some fun x y => x <<< (y &&& 31)
  | .ishr => some fun x y => x >>> (y &&& 31)
  | .iushr => some fun x y => (x.toUInt32 >>> (y.toUInt32 &&& Int32.toUInt32 31)).toInt32
  | _ => none
theorem abop_ok {i : Instr} {f : Int32 → Int32 → Int32} (h : abop i = some f) (own nL : Nat) (ls : xL) (x y : Int32) (st : List Value) : xs1 own nL i ls (.int y :: .int x :: st) = some (ls, .int (f x y) :: st) := by
  unfold abop at h
  split at h <;> first | (cases h; done) | (cases h; rfl)
def auop (i : Instr) : Option (Int32 → Int32) := match i with
  | .ineg => some fun x => -x
  | .i2b => some fun x => x.toInt8.toInt32
  | .i2s => some fun x => x.toInt16.toInt32
  | _ => none
theorem auop_ok {i : Instr} {f : Int32 → Int32} (h : auop i = some f) (own nL : Nat) (ls : xL) (x : Int32) (st : List Value) : xs1 own nL i ls (.int x :: st) = some (ls, .int (f x) :: st) := by
  unfold auop at h
  split at h <;> first | (cases h; done) | (cases h; rfl)
def aex (a : aV) : Option Int32 := match a with
  | .inl (.int x) => some x
  | _ => none
theorem aex_ok {a : aV} {x : Int32} {w : Value} (h : aex a = some x) (g : aG a w) : w = .int x := by
  unfold aex at h
  split at h
  next => cases h; exact g
  next => cases h
/-- loads that keep what they load -/
def ald (ls : aL) (k : Nat) : Option aV := match xfd ls k with
  | some a => (ai a).map fun _ => a
  | none => none
def aldl (ls : aL) (k : Nat) : Option aV := match xfd ls k with
  | some a => (aj a).map fun _ => a
  | none => none
def alda (ls : aL) (k : Nat) : Option aV := match xfd ls k with
  | some (.inl (.ref r)) => some (.inl (.ref r))
  | some (.inl (.retAddr r)) => some (.inl (.retAddr r))
  | _ => none
theorem ald_ok {as : aL} {ls : xL} (h : aGL as ls) {k : Nat} {a : aV} (e : ald as k = some a) : ∃ x : Int32, xldi ls k = some x ∧ aG a (.int x) := by
  unfold ald at e
  split at e
  next b hb =>
    obtain ⟨⟨lo, hi⟩, e1, e2⟩ := xmap e
    subst e2
    obtain ⟨v, h1, h2⟩ := aGL_get h hb
    obtain ⟨x, rfl, -⟩ := ai_ok e1 h2
    exact ⟨x, by unfold xldi; rw [h1], h2⟩
  next => cases e
theorem aldl_ok {as : aL} {ls : xL} (h : aGL as ls) {k : Nat} {a : aV} (e : aldl as k = some a) : ∃ x : Int64, xldl ls k = some x ∧ aG a (.long x) := by
  unfold aldl at e
  split at e
  next b hb =>
    obtain ⟨⟨lo, hi⟩, e1, e2⟩ := xmap e
    subst e2
    obtain ⟨v, h1, h2⟩ := aGL_get h hb
    obtain ⟨x, rfl, -⟩ := aj_ok e1 h2
    exact ⟨x, by unfold xldl; rw [h1], h2⟩
  next => cases e
theorem alda_ok {as : aL} {ls : xL} (h : aGL as ls) {k : Nat} {a : aV} (e : alda as k = some a) : ∃ v, xlda ls k = some v ∧ aG a v := by
  unfold alda at e
  split at e
  next r hb => cases e; obtain ⟨v, h1, h2⟩ := aGL_get h hb; exact ⟨.ref r, by unfold xlda; rw [h1, show v = .ref r from h2], rfl⟩
  next r hb => cases e; obtain ⟨v, h1, h2⟩ := aGL_get h hb; exact ⟨.retAddr r, by unfold xlda; rw [h1, show v = .retAddr r from h2], rfl⟩
  next => cases e
def a2l (a : aV) : Option aV := match a with
  | .inl (.int x) => some (.inl (.long x.toInt64))
  | .inr (false, lo, hi) => some (.inr (true, lo, hi))
  | _ => none
/-- a division by a number above 0; what remains -/
def adv (a : aV) (y : Int32) : Option aV := bif decide (0 < y.toInt) then (match aex a with
  | some x => some (.inl (.int (x / y)))
  | none => (ai a).map fun b => .inr (false, b.1.tdiv y.toInt, b.2.tdiv y.toInt)) else none
def arm (a : aV) (y : Int32) : Option aV := bif decide (0 < y.toInt) then (match aex a with
  | some x => some (.inl (.int (x - x / y * y)))
  | none => (ai a).map fun b => bif decide (0 ≤ b.1 ∧ b.1.tdiv y.toInt = b.2.tdiv y.toInt) then .inr (false, b.1 - b.1.tdiv y.toInt * y.toInt, b.2 - b.1.tdiv y.toInt * y.toInt) else aT) else none
/-- which is greater -/
def alc (a b : aV) : Option aV := match aj a, aj b with
  | some p, some q => bif decide (p.2 < q.1) then some (.inl (.int (-1))) else bif decide (q.2 < p.1) then some (.inl (.int 1)) else bif decide (p.1 = p.2 ∧ q.1 = q.2 ∧ p.1 = q.1) then some (.inl (.int 0))
    else bif decide (q.2 ≤ p.1) then some (.inr (false, 0, 1)) else bif decide (p.2 ≤ q.1) then some (.inr (false, -1, 0)) else some (.inr (false, -1, 1))
  | _, _ => none
def aun (a : aV) (f : Int32 → Int32) : Option aV := match aex a with
  | some x => some (.inl (.int (f x)))
  | none => (ai a).map fun _ => aT
def as1 (own nL : Nat) (i : Instr) (ls : aL) (st : List aV) : Option (aL × List aV) := match i, st with
  | .iconst n, st => some (ls, .inl (.int (Int32.ofInt n)) :: st)
  | .bipush n, st => some (ls, .inl (.int (Int8.ofInt n).toInt32) :: st)
  | .sipush n, st => some (ls, .inl (.int (Int16.ofInt n).toInt32) :: st)
  | .lconst n, st => some (ls, .inl (.long (Int64.ofNat (n : Nat))) :: st)
  | .ldc k, st => (xtb xI own k).map fun v => (ls, .inl (.int v.1) :: st)
  | .ldc_w k, st => (xtb xI own k).map fun v => (ls, .inl (.int v.1) :: st)
  | .ldc2_w k, st => (xtb xJ own k).map fun v => (ls, .inl (.long v.1) :: st)
  | .iload_n k, st => (ald ls k).map fun v => (ls, v :: st)
  | .iload k, st => (ald ls k).map fun v => (ls, v :: st)
  | .lload_n k, st => (aldl ls k).map fun v => (ls, v :: st)
  | .lload k, st => (aldl ls k).map fun v => (ls, v :: st)
  | .aload_n k, st => (alda ls k).map fun v => (ls, v :: st)
  | .aload k, st => (alda ls k).map fun v => (ls, v :: st)
  | .istore_n k, a :: st => match ai a with
    | some _ => bif Nat.blt k nL then some (axs_1 ls k a, st) else none
    | none => none
  | .istore k, a :: st => match ai a with
    | some _ => bif Nat.blt k nL then some (axs_1 ls k a, st) else none
    | none => none
  | .iinc k n, st => match ald ls k with
    | some a => match aex a with
      | some x => bif Nat.blt k nL then some (axs_1 ls k (.inl (.int (x + Int32.ofInt n))), st) else none
      | none => none
    | none => none
  | .i2l, a :: st => (a2l a).map fun v => (ls, v :: st)
  | .l2i, a :: st => (aj a).map fun _ => (ls, aT :: st)
  | .idiv, b :: a :: st => match aex b with
    | some y => (adv a y).map fun v => (ls, v :: st)
    | none => none
  | .irem, b :: a :: st => match aex b with
    | some y => (arm a y).map fun v => (ls, v :: st)
    | none => none
  | .lshl, b :: a :: st => match ai b, aj a with
    | some _, some _ => some (ls, aTL :: st)
    | _, _ => none
  | .lor, b :: a :: st => match aj b, aj a with
    | some _, some _ => some (ls, aTL :: st)
    | _, _ => none
  | .land, b :: a :: st => match aj b, aj a with
    | some _, some _ => some (ls, aTL :: st)
    | _, _ => none
  | .lcmp, b :: a :: st => (alc a b).map fun v => (ls, v :: st)
  | .dup, a :: st => bif Nat.beq (acat a) 1 then some (ls, a :: a :: st) else none
  | .pop, a :: st => bif Nat.beq (acat a) 1 then some (ls, st) else none
  | i, b :: a :: st => match abop i with
    | some f => match aex b, aex a with
      | some y, some x => some (ls, .inl (.int (f x y)) :: st)
      | _, _ => match ai b, ai a with
        | some _, some _ => some (ls, aT :: st)
        | _, _ => none
    | none => match auop i with
      | some f => (aun b f).map fun v => (ls, v :: a :: st)
      | none => none
  | i, b :: st => match auop i with
    | some f => (aun b f).map fun v => (ls, v :: st)
    | none => none
  | _, _ => none
