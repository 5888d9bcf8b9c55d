/-! the law's text: what it is, what it says. A piece of a text is told by the steps that it comes to: a sign, a value -/
abbrev lE := List (Int × Int32)
abbrev ldg (c : Int) : Prop := 48 ≤ c ∧ c ≤ 57
abbrev lop (l : Nat) (c : Int) : Prop := (l = 0 ∧ c = 124) ∨ (l = 1 ∧ c = 38) ∨ (l = 2 ∧ (c = 60 ∨ c = 61 ∨ c = 62)) ∨ (l = 3 ∧ (c = 43 ∨ c = 45)) ∨ (l = 4 ∧ (c = 42 ∨ c = 47 ∨ c = 37))
abbrev lon (c : Int) : Prop := c = 33 ∨ c = 40 ∨ c = 45
def lnm (c : Int) : Int := if c = 100 then 0 else if c = 97 then 1 else if c = 98 then 2 else if c = 104 then 3 else if c = 109 then 4 else if c = 101 then 5 else -1
def lvl (f : Nat → Int) (a : Nat) : Nat → Int
  | 0 => 0
  | k + 1 => 10 * lvl f a k + f (a + k) - 48
def lcn (f : Nat → Int) (a : Nat) : Nat := if ldg (f a) then (if ldg (f (a + 1)) then (if ldg (f (a + 2)) then (if ldg (f (a + 3)) then 4 else 3) else 2) else 1) else 0
abbrev lun (c : Int) : Int := if c = 33 then 33 else 126
abbrev lR := Option lE × Nat
/-- what begins at a, at the innermost level; g: the levels one deeper -/
def lpo (f : Nat → Int) (g : Nat → Nat → Nat → Option lR) (o a : Nat) : Option lR :=
  if ldg (f a) then some (some [(48, Int32.ofInt (lvl f a (lcn f a)))], a + lcn f a)
  else if 0 ≤ lnm (f a) then some (some [(97, Int32.ofInt (lnm (f a)))], a + 1)
  else if lon (f a) then
    (if 6 ≤ o then some (none, a)
     else if f a = 40 then (g 0 (o + 1) (a + 1)).bind (fun x => match x.1 with
        | none => some (none, x.2)
        | some e => if f x.2 = 41 then some (some e, x.2 + 1) else some (none, x.2))
     else (g 5 (o + 1) (a + 1)).bind (fun x => match x.1 with
        | none => some (none, x.2)
        | some e => some (some (e ++ [(lun (f a), 0)]), x.2)))
  else some (none, a)
/-- a text from a on, at level l, behind what stands to its left: what comes of it, where it ends or goes wrong -/
def lpf (f : Nat → Int) : Nat → Nat → Option lE → Nat → Nat → Option lR
  | 0, _, _, _, _ => none
  | k + 1, l, some e, o, b => if lop l (f b) then (lpf f k (l + 1) none o (b + 1)).bind (fun x => match x.1 with
        | none => some (none, x.2)
        | some e2 => lpf f k l (some (e ++ e2 ++ [(f b, 0)])) o x.2)
      else some (some e, b)
  | k + 1, l, none, o, a => if l = 5 then lpo f (fun l o a => lpf f k l none o a) o a
      else (lpf f k (l + 1) none o a).bind (fun x => match x.1 with
        | none => some (none, x.2)
        | some e => if l = 2 then
            (if lop 2 (f x.2) then (lpf f k 3 none o (x.2 + 1)).bind (fun y => match y.1 with
                | none => some (none, y.2)
                | some e2 => some (some (e ++ e2 ++ [(f x.2, 0)]), y.2))
             else some (some e, x.2))
          else lpf f k l (some e) o x.2)
theorem bind_mono {α β : Type} {A A' : Option α} {B B' : α → Option β} {r : β} (h : A.bind B = some r) (hA : ∀ x, A = some x → A' = some x) (hB : ∀ x, B x = some r → B' x = some r) : A'.bind B' = some r := by
  cases hx : A with
  | none => rw [hx] at h; cases h
  | some x =>
    rw [hx] at h
    rw [hA x hx]
    exact hB x h
theorem lpo_mono {f : Nat → Int} {g g' : Nat → Nat → Nat → Option lR} (hg : ∀ l o a x, g l o a = some x → g' l o a = some x) {o a : Nat} {r : lR} (h : lpo f g o a = some r) : lpo f g' o a = some r := by
  unfold lpo at h ⊢
  split at h
  next h1 => rw [if_pos h1]; exact h
  next h1 =>
    rw [if_neg h1]
    split at h
    next h2 => rw [if_pos h2]; exact h
    next h2 =>
      rw [if_neg h2]
      split at h
      next h3 =>
        rw [if_pos h3]
        split at h
        next h4 => rw [if_pos h4]; exact h
        next h4 =>
          rw [if_neg h4]
          split at h
          next h5 => rw [if_pos h5]; exact bind_mono h (hg _ _ _) (fun x hx => hx)
          next h5 => rw [if_neg h5]; exact bind_mono h (hg _ _ _) (fun x hx => hx)
      next h3 => rw [if_neg h3]; exact h
theorem lpf_mono {f : Nat → Int} : ∀ {k l : Nat} {s : Option lE} {o a : Nat} {r : lR}, lpf f k l s o a = some r → lpf f (k + 1) l s o a = some r
  | 0, _, _, _, _, _, h => by cases h
  | k + 1, l, some e, o, b, r, h => by
    rw [lpf] at h ⊢
    split at h
    next h1 =>
      rw [if_pos h1]
      refine bind_mono h (fun x hx => lpf_mono hx) (fun x hx => ?_)
      obtain ⟨y, c⟩ := x
      cases y with
      | none => exact hx
      | some e2 => exact lpf_mono hx
    next h1 => rw [if_neg h1]; exact h
  | k + 1, l, none, o, a, r, h => by
    rw [lpf] at h ⊢
    split at h
    next h1 => rw [if_pos h1]; exact lpo_mono (fun l o a x hx => lpf_mono hx) h
    next h1 =>
      rw [if_neg h1]
      refine bind_mono h (fun x hx => lpf_mono hx) (fun x hx => ?_)
      obtain ⟨y, c⟩ := x
      cases y with
      | none => exact hx
      | some e =>
        dsimp only at hx ⊢
        split at hx
        next h2 =>
          rw [if_pos h2]
          split at hx
          next h3 => rw [if_pos h3]; exact bind_mono hx (fun y hy => lpf_mono hy) (fun y hy => hy)
          next h3 => rw [if_neg h3]; exact hx
        next h2 => rw [if_neg h2]; exact lpf_mono hx
theorem lpf_le {f : Nat → Int} {k l : Nat} {s : Option lE} {o a : Nat} {r : lR} (h : lpf f k l s o a = some r) : ∀ d : Nat, lpf f (k + d) l s o a = some r
  | 0 => h
  | d + 1 => lpf_mono (lpf_le h d)
def yP (f : Nat → Int) (l : Nat) (s : Option lE) (o a : Nat) (r : lR) : Prop := ∃ k, lpf f k l s o a = some r
theorem yP_det {f : Nat → Int} {l : Nat} {s : Option lE} {o a : Nat} {r r' : lR} (h : yP f l s o a r) (g : yP f l s o a r') : r = r' := by
  obtain ⟨k, h⟩ := h
  obtain ⟨m, g⟩ := g
  have h1 := lpf_le h m
  have g1 := lpf_le g k
  rw [Nat.add_comm] at g1
  rw [h1] at g1
  exact Option.some.inj g1
theorem yP_lb {f : Nat → Int} {l o a b : Nat} (hl : l ≤ 4) (h : yP f (l + 1) none o a (none, b)) : yP f l none o a (none, b) := by
  obtain ⟨k, h⟩ := h
  refine ⟨k + 1, ?_⟩
  rw [lpf, if_neg (by omega), h]
  rfl
theorem yP_lo {f : Nat → Int} {l o a b : Nat} {e : lE} {r : lR} (hl : l ≤ 4) (h2 : l ≠ 2) (h : yP f (l + 1) none o a (some e, b)) (g : yP f l (some e) o b r) : yP f l none o a r := by
  obtain ⟨k, h⟩ := h
  obtain ⟨m, g⟩ := g
  refine ⟨k + m + 1, ?_⟩
  rw [lpf, if_neg (by omega), lpf_le h m]
  show (if l = 2 then _ else lpf f (k + m) l (some e) o b) = _
  rw [if_neg h2, Nat.add_comm k m]
  exact lpf_le g k
theorem yP_le {f : Nat → Int} {l o b : Nat} {e : lE} (h : ¬ lop l (f b)) : yP f l (some e) o b (some e, b) := ⟨1, by rw [lpf, if_neg h]⟩
theorem yP_lm {f : Nat → Int} {l o b c : Nat} {e e2 : lE} {r : lR} (h1 : lop l (f b)) (h : yP f (l + 1) none o (b + 1) (some e2, c)) (g : yP f l (some (e ++ e2 ++ [(f b, 0)])) o c r) : yP f l (some e) o b r := by
  obtain ⟨k, h⟩ := h
  obtain ⟨m, g⟩ := g
  refine ⟨k + m + 1, ?_⟩
  rw [lpf, if_pos h1, lpf_le h m]
  show lpf f (k + m) l _ o c = _
  rw [Nat.add_comm k m]
  exact lpf_le g k
theorem yP_lx {f : Nat → Int} {l o b c : Nat} {e : lE} (h1 : lop l (f b)) (h : yP f (l + 1) none o (b + 1) (none, c)) : yP f l (some e) o b (none, c) := by
  obtain ⟨k, h⟩ := h
  refine ⟨k + 1, ?_⟩
  rw [lpf, if_pos h1, h]
  rfl
theorem yP_c1 {f : Nat → Int} {o a b : Nat} {e : lE} (h : yP f 3 none o a (some e, b)) (h1 : ¬ lop 2 (f b)) : yP f 2 none o a (some e, b) := by
  obtain ⟨k, h⟩ := h
  refine ⟨k + 1, ?_⟩
  rw [lpf, if_neg (by decide), h, Option.bind_some]
  dsimp only
  rw [if_pos rfl, if_neg h1]
theorem yP_c2 {f : Nat → Int} {o a b c : Nat} {e e2 : lE} (h : yP f 3 none o a (some e, b)) (h1 : lop 2 (f b)) (g : yP f 3 none o (b + 1) (some e2, c)) : yP f 2 none o a (some (e ++ e2 ++ [(f b, 0)]), c) := by
  obtain ⟨k, h⟩ := h
  obtain ⟨m, g⟩ := g
  refine ⟨k + m + 1, ?_⟩
  rw [lpf, if_neg (by decide), lpf_le h m, Option.bind_some]
  dsimp only
  rw [if_pos rfl, if_pos h1, Nat.add_comm k m, lpf_le g k]
  rfl
theorem yP_c3 {f : Nat → Int} {o a b c : Nat} {e : lE} (h : yP f 3 none o a (some e, b)) (h1 : lop 2 (f b)) (g : yP f 3 none o (b + 1) (none, c)) : yP f 2 none o a (none, c) := by
  obtain ⟨k, h⟩ := h
  obtain ⟨m, g⟩ := g
  refine ⟨k + m + 1, ?_⟩
  rw [lpf, if_neg (by decide), lpf_le h m, Option.bind_some]
  dsimp only
  rw [if_pos rfl, if_pos h1, Nat.add_comm k m, lpf_le g k]
  rfl
theorem lcn_of {f : Nat → Int} {a k : Nat} (h0 : 1 ≤ k) (h4 : k ≤ 4) (h : ∀ j, j < k → ldg (f (a + j))) (he : k = 4 ∨ ¬ ldg (f (a + k))) : lcn f a = k := by
  unfold lcn
  have h1 := h 0 (by omega)
  rw [Nat.add_zero] at h1
  rw [if_pos h1]
  rcases (show k = 1 ∨ k = 2 ∨ k = 3 ∨ k = 4 from by omega) with rfl | rfl | rfl | rfl
  · rw [if_neg (he.resolve_left (by decide))]
  · rw [if_pos (h 1 (by decide)), if_neg (he.resolve_left (by decide))]
  · rw [if_pos (h 1 (by decide)), if_pos (h 2 (by decide)), if_neg (he.resolve_left (by decide))]
  · rw [if_pos (h 1 (by decide)), if_pos (h 2 (by decide)), if_pos (h 3 (by decide))]
theorem yP_num {f : Nat → Int} {o a k : Nat} {x : Int32} (h0 : 1 ≤ k) (h4 : k ≤ 4) (h : ∀ j, j < k → ldg (f (a + j))) (he : k = 4 ∨ ¬ ldg (f (a + k))) (hx : x.toInt = lvl f a k) : yP f 5 none o a (some [(48, x)], a + k) := by
  refine ⟨1, ?_⟩
  have h1 := h 0 (by omega)
  rw [Nat.add_zero] at h1
  rw [lpf, if_pos rfl, lpo, if_pos h1, lcn_of h0 h4 h he, ← hx, Int32.ofInt_toInt]
theorem ldg_nm {c : Int} (h : ldg c) : lnm c < 0 := by
  unfold lnm
  repeat (rw [if_neg (by omega)])
  decide
theorem lon_no {c : Int} (h : lon c) : lnm c < 0 ∧ ¬ ldg c := by
  refine ⟨?_, by omega⟩
  unfold lnm
  repeat (rw [if_neg (by omega)])
  decide
theorem yP_nam {f : Nat → Int} {o a : Nat} (h : 0 ≤ lnm (f a)) : yP f 5 none o a (some [(97, Int32.ofInt (lnm (f a)))], a + 1) := by
  refine ⟨1, ?_⟩
  rw [lpf, if_pos rfl, lpo, if_neg (fun z => absurd (ldg_nm z) (by omega)), if_pos h]
theorem yP_full {f : Nat → Int} {o a : Nat} (h : lon (f a)) (ho : 6 ≤ o) : yP f 5 none o a (none, a) := by
  have h2 := lon_no h
  refine ⟨1, ?_⟩
  rw [lpf, if_pos rfl, lpo, if_neg h2.2, if_neg (by omega), if_pos h, if_pos ho]
theorem yP_oth {f : Nat → Int} {o a : Nat} (h1 : ¬ ldg (f a)) (h2 : lnm (f a) < 0) (h3 : ¬ lon (f a)) : yP f 5 none o a (none, a) := by
  refine ⟨1, ?_⟩
  rw [lpf, if_pos rfl, lpo, if_neg h1, if_neg (by omega), if_neg h3]
theorem yP_pb {f : Nat → Int} {o a b : Nat} (h1 : f a = 40) (ho : o < 6) (h : yP f 0 none (o + 1) (a + 1) (none, b)) : yP f 5 none o a (none, b) := by
  obtain ⟨k, h⟩ := h
  have h2 := lon_no (c := f a) (by omega)
  refine ⟨k + 1, ?_⟩
  rw [lpf, if_pos rfl, lpo, if_neg h2.2, if_neg (by omega), if_pos (by omega), if_neg (by omega), if_pos h1, h]
  rfl
theorem yP_pn {f : Nat → Int} {o a b : Nat} {e : lE} (h1 : f a = 40) (ho : o < 6) (h : yP f 0 none (o + 1) (a + 1) (some e, b)) (hb : f b ≠ 41) : yP f 5 none o a (none, b) := by
  obtain ⟨k, h⟩ := h
  have h2 := lon_no (c := f a) (by omega)
  refine ⟨k + 1, ?_⟩
  rw [lpf, if_pos rfl, lpo, if_neg h2.2, if_neg (by omega), if_pos (by omega), if_neg (by omega), if_pos h1, h]
  show (if f b = 41 then _ else _) = _
  rw [if_neg hb]
theorem yP_po {f : Nat → Int} {o a b : Nat} {e : lE} (h1 : f a = 40) (ho : o < 6) (h : yP f 0 none (o + 1) (a + 1) (some e, b)) (hb : f b = 41) : yP f 5 none o a (some e, b + 1) := by
  obtain ⟨k, h⟩ := h
  have h2 := lon_no (c := f a) (by omega)
  refine ⟨k + 1, ?_⟩
  rw [lpf, if_pos rfl, lpo, if_neg h2.2, if_neg (by omega), if_pos (by omega), if_neg (by omega), if_pos h1, h]
  show (if f b = 41 then _ else _) = _
  rw [if_pos hb]
theorem yP_ub {f : Nat → Int} {o a b : Nat} (h1 : f a = 33 ∨ f a = 45) (ho : o < 6) (h : yP f 5 none (o + 1) (a + 1) (none, b)) : yP f 5 none o a (none, b) := by
  obtain ⟨k, h⟩ := h
  have h2 := lon_no (c := f a) (by omega)
  refine ⟨k + 1, ?_⟩
  rw [lpf, if_pos rfl, lpo, if_neg h2.2, if_neg (by omega), if_pos (by omega), if_neg (by omega), if_neg (by omega), h]
  rfl
theorem yP_uo {f : Nat → Int} {o a b : Nat} {e : lE} (h1 : f a = 33 ∨ f a = 45) (ho : o < 6) (h : yP f 5 none (o + 1) (a + 1) (some e, b)) : yP f 5 none o a (some (e ++ [(lun (f a), 0)]), b) := by
  obtain ⟨k, h⟩ := h
  have h2 := lon_no (c := f a) (by omega)
  refine ⟨k + 1, ?_⟩
  rw [lpf, if_pos rfl, lpo, if_neg h2.2, if_neg (by omega), if_pos (by omega), if_neg (by omega), if_neg (by omega), h]
  rfl
/-! lines, the whole text -/
abbrev yN := Option lE × lE
def lln (f : Nat → Int) (k a : Nat) : Option (Option yN × Nat) := (lpf f k 0 none 0 a).bind (fun x => match x.1 with
  | none => some (none, x.2)
  | some e => if f x.2 = 63 then (lpf f k 0 none 0 (x.2 + 1)).bind (fun y => match y.1 with
        | none => some (none, y.2)
        | some e2 => some (some (some e, e2), y.2))
      else some (some (none, e), x.2))
def ltf (f : Nat → Int) : Nat → Nat → List yN → Option (Option (List yN) × Nat)
  | 0, _, _ => none
  | k + 1, a, ac => (lln f k a).bind (fun x => match x.1 with
      | none => some (none, x.2)
      | some y => if f x.2 = 59 then ltf f k (x.2 + 1) (ac ++ [y]) else some (some (ac ++ [y]), x.2))
theorem lln_mono {f : Nat → Int} {k a : Nat} {r : Option yN × Nat} (h : lln f k a = some r) : lln f (k + 1) a = some r := by
  unfold lln at h ⊢
  refine bind_mono h (fun x hx => lpf_mono hx) (fun x hx => ?_)
  obtain ⟨y, c⟩ := x
  cases y with
  | none => exact hx
  | some e =>
    dsimp only at hx ⊢
    split at hx
    next h1 => rw [if_pos h1]; exact bind_mono hx (fun y hy => lpf_mono hy) (fun y hy => hy)
    next h1 => rw [if_neg h1]; exact hx
theorem lln_le {f : Nat → Int} {k a : Nat} {r : Option yN × Nat} (h : lln f k a = some r) : ∀ d : Nat, lln f (k + d) a = some r
  | 0 => h
  | d + 1 => lln_mono (lln_le h d)
theorem ltf_mono {f : Nat → Int} : ∀ {k a : Nat} {ac : List yN} {r : Option (List yN) × Nat}, ltf f k a ac = some r → ltf f (k + 1) a ac = some r
  | 0, _, _, _, h => by cases h
  | k + 1, a, ac, r, h => by
    rw [ltf] at h ⊢
    refine bind_mono h (fun x hx => lln_mono hx) (fun x hx => ?_)
    obtain ⟨y, c⟩ := x
    cases y with
    | none => exact hx
    | some e =>
      dsimp only at hx ⊢
      split at hx
      next h1 => rw [if_pos h1]; exact ltf_mono hx
      next h1 => rw [if_neg h1]; exact hx
theorem ltf_le {f : Nat → Int} {k a : Nat} {ac : List yN} {r : Option (List yN) × Nat} (h : ltf f k a ac = some r) : ∀ d : Nat, ltf f (k + d) a ac = some r
  | 0 => h
  | d + 1 => ltf_mono (ltf_le h d)
def yL (f : Nat → Int) (a : Nat) (r : Option yN × Nat) : Prop := ∃ k, lln f k a = some r
def yT (f : Nat → Int) (a : Nat) (ac : List yN) (r : Option (List yN) × Nat) : Prop := ∃ k, ltf f k a ac = some r
theorem yT_det {f : Nat → Int} {a : Nat} {ac : List yN} {r r' : Option (List yN) × Nat} (h : yT f a ac r) (g : yT f a ac r') : r = r' := by
  obtain ⟨k, h⟩ := h
  obtain ⟨m, g⟩ := g
  have h1 := ltf_le h m
  have g1 := ltf_le g k
  rw [Nat.add_comm] at g1
  rw [h1] at g1
  exact Option.some.inj g1
theorem yL_b1 {f : Nat → Int} {a b : Nat} (h : yP f 0 none 0 a (none, b)) : yL f a (none, b) := by
  obtain ⟨k, h⟩ := h
  exact ⟨k, by rw [lln, h]; rfl⟩
theorem yL_o1 {f : Nat → Int} {a b : Nat} {e : lE} (h : yP f 0 none 0 a (some e, b)) (h1 : f b ≠ 63) : yL f a (some (none, e), b) := by
  obtain ⟨k, h⟩ := h
  refine ⟨k, ?_⟩
  rw [lln, h]
  show (if f b = 63 then _ else _) = _
  rw [if_neg h1]
theorem yL_b2 {f : Nat → Int} {a b c : Nat} {e : lE} (h : yP f 0 none 0 a (some e, b)) (h1 : f b = 63) (g : yP f 0 none 0 (b + 1) (none, c)) : yL f a (none, c) := by
  obtain ⟨k, h⟩ := h
  obtain ⟨m, g⟩ := g
  refine ⟨k + m, ?_⟩
  rw [lln, lpf_le h m]
  show (if f b = 63 then (lpf f (k + m) 0 none 0 (b + 1)).bind _ else _) = _
  rw [if_pos h1, Nat.add_comm k m, lpf_le g k]
  rfl
theorem yL_o2 {f : Nat → Int} {a b c : Nat} {e e2 : lE} (h : yP f 0 none 0 a (some e, b)) (h1 : f b = 63) (g : yP f 0 none 0 (b + 1) (some e2, c)) : yL f a (some (some e, e2), c) := by
  obtain ⟨k, h⟩ := h
  obtain ⟨m, g⟩ := g
  refine ⟨k + m, ?_⟩
  rw [lln, lpf_le h m]
  show (if f b = 63 then (lpf f (k + m) 0 none 0 (b + 1)).bind _ else _) = _
  rw [if_pos h1, Nat.add_comm k m, lpf_le g k]
  rfl
theorem yT_b {f : Nat → Int} {a b : Nat} {ac : List yN} (h : yL f a (none, b)) : yT f a ac (none, b) := by
  obtain ⟨k, h⟩ := h
  exact ⟨k + 1, by rw [ltf, h]; rfl⟩
theorem yT_s {f : Nat → Int} {a b : Nat} {ac : List yN} {x : yN} (h : yL f a (some x, b)) (h1 : f b ≠ 59) : yT f a ac (some (ac ++ [x]), b) := by
  obtain ⟨k, h⟩ := h
  refine ⟨k + 1, ?_⟩
  rw [ltf, h]
  show (if f b = 59 then _ else _) = _
  rw [if_neg h1]
theorem yT_m {f : Nat → Int} {a b : Nat} {ac : List yN} {x : yN} {r : Option (List yN) × Nat} (h : yL f a (some x, b)) (h1 : f b = 59) (g : yT f (b + 1) (ac ++ [x]) r) : yT f a ac r := by
  obtain ⟨k, h⟩ := h
  obtain ⟨m, g⟩ := g
  refine ⟨k + m + 1, ?_⟩
  rw [ltf, lln_le h m]
  show (if f b = 59 then ltf f (k + m) (b + 1) (ac ++ [x]) else _) = _
  rw [if_pos h1, Nat.add_comm k m]
  exact ltf_le g k
/-! what steps do to a stack -/
def ljo (c : Int) (x y : Int32) : Int32 :=
  if c = 124 then (if x ≠ 0 ∨ y ≠ 0 then 1 else 0)
  else if c = 38 then (if x ≠ 0 ∧ y ≠ 0 then 1 else 0)
  else if c = 60 then (if x.toInt < y.toInt then 1 else 0)
  else if c = 61 then (if x.toInt = y.toInt then 1 else 0)
  else if c = 62 then (if y.toInt < x.toInt then 1 else 0)
  else if c = 43 then x + y
  else if c = 45 then x - y
  else if c = 42 then x * y
  else if c = 47 then (if y = 0 then 0 else x / y)
  else (if y = 0 then 0 else x - x / y * y)
def lst (nm : Int → Int32) (x : Int × Int32) (s : List Int32) : List Int32 :=
  if x.1 = 48 then x.2 :: s
  else if x.1 = 97 then nm x.2.toInt :: s
  else if x.1 = 126 then (-(s.headD 0)) :: s.tail
  else if x.1 = 33 then (if s.headD 0 = 0 then 1 else 0) :: s.tail
  else ljo x.1 (s.tail.headD 0) (s.headD 0) :: s.tail.tail
def lrn (nm : Int → Int32) : lE → List Int32 → List Int32
  | [], s => s
  | x :: r, s => lrn nm r (lst nm x s)
theorem lrn_app {nm : Int → Int32} : ∀ (a b : lE) (s : List Int32), lrn nm (a ++ b) s = lrn nm b (lrn nm a s)
  | [], _, _ => rfl
  | x :: r, b, s => lrn_app r b (lst nm x s)
/-- what it is worth -/
def lV (nm : Int → Int32) (e : lE) (v : Int32) : Prop := ∀ s, lrn nm e s = v :: s
theorem lV_one {nm : Int → Int32} {e : lE} {v w : Int32} (h : lV nm e v) (g : lV nm e w) : v = w := by
  have := (h []).symm.trans (g [])
  exact (List.cons.inj this).1
theorem lV_num {nm : Int → Int32} {x : Int32} : lV nm [(48, x)] x := fun _ => rfl
theorem lV_nam {nm : Int → Int32} {x : Int32} {v : Int32} (h : v = nm x.toInt) : lV nm [(97, x)] v := fun _ => by rw [h]; rfl
theorem lV_bin {nm : Int → Int32} {a b : lE} {c : Int} {l : Nat} {x y v : Int32} (hc : lop l c) (h : lV nm a x) (g : lV nm b y) (hv : v = ljo c x y) : lV nm (a ++ b ++ [(c, 0)]) v := fun s => by
  rw [lrn_app, lrn_app, h s, g]
  show lst nm (c, 0) (y :: x :: s) = _
  unfold lst
  dsimp only
  rw [if_neg (by omega), if_neg (by omega), if_neg (by omega), if_neg (by omega), hv]
  rfl
theorem lV_not {nm : Int → Int32} {a : lE} {c : Int} {x v : Int32} (hc : c = 33) (h : lV nm a x) (hv : v = if x = 0 then 1 else 0) : lV nm (a ++ [(lun c, 0)]) v := fun s => by
  subst hc
  rw [lrn_app, h s, hv]
  rfl
theorem lV_neg {nm : Int → Int32} {a : lE} {c : Int} {x v : Int32} (hc : c = 45) (h : lV nm a x) (hv : v = -x) : lV nm (a ++ [(lun c, 0)]) v := fun s => by
  subst hc
  rw [lrn_app, h s, hv]
  rfl
/-- steps that may stand in a law, of a text that is whole -/
abbrev lsg (c : Int) : Prop := c = 48 ∨ c = 97 ∨ c = 126 ∨ c = 33 ∨ ∃ l : Nat, lop l c
def lK (e : lE) : Prop := (∀ x ∈ e, lsg x.1 ∧ (x.1 = 97 → 0 ≤ x.2.toInt ∧ x.2.toInt ≤ 5)) ∧ ∀ nm, ∃ v, lV nm e v
theorem lK_num {x : Int32} : lK [(48, x)] := ⟨fun y hy => by rw [List.mem_singleton.mp hy]; exact ⟨Or.inl rfl, fun h => absurd h (by show ¬ (48 : Int) = 97; decide)⟩, fun nm => ⟨x, lV_num⟩⟩
theorem lnm_5 (c : Int) : lnm c ≤ 5 := by
  unfold lnm
  repeat' split
  all_goals decide
theorem lK_nam {c : Int} (h : 0 ≤ lnm c) : lK [(97, Int32.ofInt (lnm c))] := by
  have h5 := lnm_5 c
  have e : (Int32.ofInt (lnm c)).toInt = lnm c := Int32.toInt_ofInt_of_le (by omega) (by omega)
  exact ⟨fun y hy => by rw [List.mem_singleton.mp hy]; exact ⟨Or.inr (Or.inl rfl), fun _ => by show 0 ≤ (Int32.ofInt (lnm c)).toInt ∧ (Int32.ofInt (lnm c)).toInt ≤ 5; omega⟩, fun nm => ⟨_, lV_nam rfl⟩⟩
theorem lK_bin {a b : lE} {c : Int} {l : Nat} (hc : lop l c) (h : lK a) (g : lK b) : lK (a ++ b ++ [(c, 0)]) := by
  refine ⟨fun y hy => ?_, fun nm => ?_⟩
  · rcases List.mem_append.mp hy with hy | hy
    · rcases List.mem_append.mp hy with hy | hy
      · exact h.1 y hy
      · exact g.1 y hy
    · rw [List.mem_singleton.mp hy]
      exact ⟨Or.inr (Or.inr (Or.inr (Or.inr ⟨l, hc⟩))), fun z => absurd z (by show ¬ c = 97; omega)⟩
  · obtain ⟨x, hx⟩ := h.2 nm
    obtain ⟨y, hy⟩ := g.2 nm
    exact ⟨_, lV_bin hc hx hy rfl⟩
theorem lK_un {a : lE} {c : Int} (hc : c = 33 ∨ c = 45) (h : lK a) : lK (a ++ [(lun c, 0)]) := by
  refine ⟨fun y hy => ?_, fun nm => ?_⟩
  · rcases List.mem_append.mp hy with hy | hy
    · exact h.1 y hy
    · rw [List.mem_singleton.mp hy]
      rcases hc with hc | hc
      · subst hc; exact ⟨Or.inr (Or.inr (Or.inr (Or.inl rfl))), fun z => absurd z (by decide)⟩
      · subst hc; exact ⟨Or.inr (Or.inr (Or.inl rfl)), fun z => absurd z (by decide)⟩
  · obtain ⟨x, hx⟩ := h.2 nm
    rcases hc with hc | hc
    · exact ⟨_, lV_not hc hx rfl⟩
    · exact ⟨_, lV_neg hc hx rfl⟩
/-! lines as steps, what a text is worth -/
def llc (L : Nat) (x : yN) : lE := match x.1 with
  | none => x.2 ++ [(59, 0)]
  | some c => c ++ [(63, Int32.ofNat (L + c.length + 1 + x.2.length + 1))] ++ x.2 ++ [(59, 0)]
def ltc (L : Nat) : List yN → lE
  | [] => []
  | x :: r => llc L x ++ ltc (L + (llc L x).length) r
theorem ltc_app : ∀ (L : Nat) (a : List yN) (x : yN), ltc L (a ++ [x]) = ltc L a ++ llc (L + (ltc L a).length) x
  | L, [], x => by show llc L x ++ [] = [] ++ llc (L + 0) x; rw [List.append_nil, List.nil_append, Nat.add_zero]
  | L, y :: r, x => by
    show llc L y ++ ltc _ (r ++ [x]) = (llc L y ++ ltc _ r) ++ _
    rw [ltc_app _ r x, List.append_assoc]
    congr 3
    show _ = L + (llc L y ++ ltc _ r).length
    rw [List.length_append]
    omega
/-- the first line that counts -/
def lW (nm : Int → Int32) : List yN → Int32 → Prop
  | [], v => v = 0
  | x :: r, v => match x.1 with
    | none => lV nm x.2 v
    | some c => ∃ u, lV nm c u ∧ if u = 0 then lW nm r v else lV nm x.2 v
theorem lW_one {nm : Int → Int32} : ∀ {a : List yN} {v w : Int32}, lW nm a v → lW nm a w → v = w
  | [], v, w, h, g => Eq.trans h (Eq.symm g)
  | (none, e) :: r, v, w, h, g => lV_one h g
  | (some c, e) :: r, v, w, h, g => by
    obtain ⟨u, h1, h2⟩ := h
    obtain ⟨u', g1, g2⟩ := g
    have := lV_one h1 g1
    subst this
    split at h2
    next hu => rw [if_pos hu] at g2; exact lW_one h2 g2
    next hu => rw [if_neg hu] at g2; exact lV_one h2 g2
def lKl (x : yN) : Prop := lK x.2 ∧ ∀ c, x.1 = some c → lK c
