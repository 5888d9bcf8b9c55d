noncomputable section
/-! the bounded machine is sound: locals, ends, calls -/
def jLs (w : jP) (als : jL) (ls : xL) : Prop := ∀ q ∈ als, ∃ v, xfd ls q.1 = some v ∧ jR w q.2 v
theorem jLs.mono {w w' : jP} (h : jLe w w') {als : jL} {ls : xL} (k : jLs w als ls) : jLs w' als ls := fun q hq => by
  obtain ⟨v, h1, h2⟩ := k q hq
  exact ⟨v, h1, h2.mono h⟩
theorem xfd_keep {f : Nat × Value → Bool} : ∀ {ls : xL} {j : Nat} {v : Value}, xfd ls j = some v → f (j, v) = true → xfd (ls.filter f) j = some v
  | [], _, _, h, _ => by cases h
  | q :: l, j, v, h, hf => by
    rw [xfd_cons] at h
    cases hb : Nat.beq q.1 j with
    | true =>
      rw [hb] at h
      cases h
      have hj := Nat.eq_of_beq_eq_true hb
      subst hj
      rw [List.filter_cons, show f q = true from hf]
      show xfd (q :: _) q.1 = _
      rw [xfd_cons, Nat.beq_refl]
      rfl
    | false =>
      rw [hb] at h
      have ih := xfd_keep (f := f) h hf
      rw [List.filter_cons]
      split
      · rw [xfd_cons, hb]
        exact ih
      · exact ih
theorem jcat_top (g : jS) (a : jV) : jcat g a ≤ 2 := by
  have h2 : ∀ v : Value, v.category ≤ 2 := fun v => by cases v <;> exact Nat.le_of_ble_eq_true rfl
  cases a with
  | inl v => exact h2 v
  | inr s =>
    unfold jcat
    dsimp only
    split
    next q _ => cases Nat.beq q.1 0 <;> decide
    next => decide
theorem jcat_no2 {w : jP} {g : jS} (h : jT w g.2.1) {a : jV} {v : Value} (k : jR w a v) (e : Nat.beq (jcat g a) 2 = false) : (v.category == 2) = false := by
  have h1 := jcat_le h k
  have h2 := jcat_top g a
  cases hq : v.category == 2 with
  | false => rfl
  | true =>
    have h3 : v.category = 2 := eq_of_beq hq
    have h4 : jcat g a = 2 := by omega
    rw [h4] at e
    cases e
theorem beqF {a b : Nat} (h : Nat.beq a b = false) : (a == b) = false := beq_eq_false_iff_ne.mpr (fun e => by subst e; rw [Nat.beq_refl] at h; cases h)
theorem js1_ok {w : jP} {g : jS} {als : jL} {ls : xL} {i : Nat} {a : jV} {v : Value} (h : jT w g.2.1) (hl : jLs w als ls) (hv : jR w a v) : jLs w (js1 g als i a) (xs_1 ls i v) := by
  intro q hq
  rcases List.mem_cons.mp hq with rfl | hq
  · exact ⟨v, by unfold xs_1; rw [xfd_cons, Nat.beq_refl]; rfl, hv⟩
  · obtain ⟨m1, m2⟩ := List.mem_filter.mp hq
    obtain ⟨u, u1, u2⟩ := hl q m1
    rw [Bool.and_eq_true] at m2
    have hne := jnb1 m2.1
    refine ⟨u, ?_, u2⟩
    unfold xs_1
    rw [xfd_cons]
    have hb : Nat.beq i q.1 = false := by
      cases hb : Nat.beq i q.1 with
      | false => rfl
      | true => exact absurd (Nat.eq_of_beq_eq_true hb).symm hne
    rw [hb, cond_false]
    refine xfd_keep u1 ?_
    show (!(q.1 == i) && !(q.1 + 1 == i && u.category == 2)) = true
    rw [show (q.1 == i) = false from beq_eq_false_iff_ne.mpr hne]
    cases hc : Nat.beq (q.1 + 1) i with
    | false => rw [beqF hc]; rfl
    | true =>
      have h4 := m2.2
      rw [hc] at h4
      have h5 : Nat.beq (jcat g q.2) 2 = false := by
        cases h6 : Nat.beq (jcat g q.2) 2 with
        | false => rfl
        | true => rw [h6] at h4; cases h4
      rw [jcat_no2 h u2 h5]
      simp
theorem js2_ok {w : jP} {g : jS} {als : jL} {ls : xL} {i : Nat} {a : jV} {v : Value} (h : jT w g.2.1) (hl : jLs w als ls) (hv : jR w a v) : jLs w (js2 g als i a) (xs_2 ls i v) := by
  intro q hq
  rcases List.mem_cons.mp hq with rfl | hq
  · exact ⟨v, by unfold xs_2; rw [xfd_cons, Nat.beq_refl]; rfl, hv⟩
  · obtain ⟨m1, m2⟩ := List.mem_filter.mp hq
    obtain ⟨u, u1, u2⟩ := hl q m1
    rw [Bool.and_eq_true, Bool.and_eq_true] at m2
    have hne := jnb1 m2.1
    have hne2 := jnb1 m2.2.1
    refine ⟨u, ?_, u2⟩
    unfold xs_2
    rw [xfd_cons]
    have hb : Nat.beq i q.1 = false := by
      cases hb : Nat.beq i q.1 with
      | false => rfl
      | true => exact absurd (Nat.eq_of_beq_eq_true hb).symm hne
    rw [hb, cond_false]
    refine xfd_keep u1 ?_
    show (!(q.1 == i) && (!(q.1 == i + 1) && !(q.1 + 1 == i && u.category == 2))) = true
    rw [show (q.1 == i) = false from beq_eq_false_iff_ne.mpr hne, show (q.1 == i + 1) = false from beq_eq_false_iff_ne.mpr hne2]
    cases hc : Nat.beq (q.1 + 1) i with
    | false => rw [beqF hc]; rfl
    | true =>
      have h4 := m2.2.2
      rw [hc] at h4
      have h5 : Nat.beq (jcat g q.2) 2 = false := by
        cases h6 : Nat.beq (jcat g q.2) 2 with
        | false => rfl
        | true => rw [h6] at h4; cases h4
      rw [jcat_no2 h u2 h5]
      simp
theorem jld_ok {w : jP} {g : jS} {als : jL} {ls : xL} {k kd : Nat} {a : jV} (h : jT w g.2.1) (hl : jLs w als ls) (e : jld g als k kd = some a) : ∃ v lo hi, xfd ls k = some v ∧ jI kd lo hi v ∧ jR w a v := by
  unfold jld at e
  split at e
  next b hb =>
    obtain ⟨hz, e⟩ := xbif e
    cases e
    obtain ⟨v, h1, h2⟩ := hl _ (xfd_in hb)
    exact ⟨v, _, _, h1, jin_ok h hz h2, jnm_ok h h2⟩
  next => cases e
theorem jlr_ok {w : jP} {als : jL} {ls : xL} {k : Nat} {a : jV} (hl : jLs w als ls) (e : jlr als k = some a) : ∃ v, xlda ls k = some v ∧ jR w a v := by
  unfold jlr at e
  split at e
  next r hb =>
    cases e
    obtain ⟨v, h1, h2⟩ := hl _ (xfd_in hb)
    cases h2
    exact ⟨.ref r, by unfold xlda; rw [show xfd ls k = _ from h1], rfl⟩
  next => cases e
theorem jbo_ok {i : Instr} {o : Nat} {x y v : Value} (h : jbo i = some o) (e : jop o x y = some v) (own nL : Nat) (ls : xL) (st : List Value) : xs1 own nL i ls (y :: x :: st) = some (ls, v :: st) := by
  unfold jbo at h
  split at h <;> first | (cases h; done) | skip
  next => cases h; cases x <;> cases y <;> first | (cases e; rfl) | (cases e; done)
  next => cases h; cases x <;> cases y <;> first | (cases e; rfl) | (cases e; done)
  next => cases h; cases x <;> cases y <;> first | (cases e; rfl) | (cases e; done)
  next =>
    cases h
    cases x <;> cases y <;> first | (cases e; done) | skip
    next x y =>
      obtain ⟨h1, h2⟩ := jbif2 (show (bif decide (y = 0) then none else some (Value.int (x / y))) = some v from e)
      subst h2
      show (if y = 0 then none else some (ls, Value.int (x / y) :: st)) = _
      rw [if_neg (of_decide_eq_false h1)]
  next =>
    cases h
    cases x <;> cases y <;> first | (cases e; done) | skip
    next x y =>
      obtain ⟨h1, h2⟩ := jbif2 (show (bif decide (y = 0) then none else some (Value.int (x - x / y * y))) = some v from e)
      subst h2
      show (if y = 0 then none else some (ls, Value.int (x - x / y * y) :: st)) = _
      rw [if_neg (of_decide_eq_false h1)]
  next => cases h; cases x <;> cases y <;> first | (cases e; rfl) | (cases e; done)
  next => cases h; cases x <;> cases y <;> first | (cases e; rfl) | (cases e; done)
  next => cases h; cases x <;> cases y <;> first | (cases e; rfl) | (cases e; done)
  next => cases h; cases x <;> cases y <;> first | (cases e; rfl) | (cases e; done)
  next => cases h; cases x <;> cases y <;> first | (cases e; rfl) | (cases e; done)
  next => cases h; cases x <;> cases y <;> first | (cases e; rfl) | (cases e; done)
  next => cases h; cases x <;> cases y <;> first | (cases e; rfl) | (cases e; done)
theorem juo_ok {i : Instr} {o : Nat} {x v : Value} (h : juo i = some o) (e : jop o x (.int 0) = some v) (own nL : Nat) (ls : xL) (st : List Value) : xs1 own nL i ls (x :: st) = some (ls, v :: st) := by
  unfold juo at h
  split at h <;> first | (cases h; done) | (cases h; cases x <;> first | (cases e; rfl) | (cases e; done))
set_option maxHeartbeats 4000000 in
theorem jx1_ok {G : jGt} {own nL : Nat} {i : Instr} {als als' : jL} {ast ast' : List jV} {w : jP} {g g' : jS} {ls : xL} {st : List Value} {p : xH} (h : jSt G w g p) (e : jx1 own nL i als ast g = some (als', ast', g')) (hl : jLs w als ls) (hs : jSl w ast st) :
    ∃ ls' st' w', xs1 own nL i ls st = some (ls', st') ∧ jLe w w' ∧ jSt G w' g' p ∧ jLs w' als' ls' ∧ jSl w' ast' st' := by
  unfold jx1 at e
  split at e
  next => cases e; exact ⟨_, _, w, rfl, jLe.refl w, h, hl, rfl, hs⟩
  next => cases e; exact ⟨_, _, w, rfl, jLe.refl w, h, hl, rfl, hs⟩
  next => cases e; exact ⟨_, _, w, rfl, jLe.refl w, h, hl, rfl, hs⟩
  next => cases e; exact ⟨_, _, w, rfl, jLe.refl w, h, hl, rfl, hs⟩
  next => obtain ⟨v, hv, hh⟩ := xmap e; cases hh; exact ⟨ls, .int v.1 :: st, w, by simp [xs1, hv], jLe.refl w, h, hl, rfl, hs⟩
  next => obtain ⟨v, hv, hh⟩ := xmap e; cases hh; exact ⟨ls, .int v.1 :: st, w, by simp [xs1, hv], jLe.refl w, h, hl, rfl, hs⟩
  next => obtain ⟨v, hv, hh⟩ := xmap e; cases hh; exact ⟨ls, .long v.1 :: st, w, by simp [xs1, hv], jLe.refl w, h, hl, rfl, hs⟩
  next => obtain ⟨v, hv, hh⟩ := xmap e; cases hh; obtain ⟨u, lo, hi, h1, h2, h3⟩ := jld_ok h.2.1 hl hv; obtain ⟨x, rfl, -⟩ := h2.int; exact ⟨ls, .int x :: st, w, by simp [xs1, xldi, h1], jLe.refl w, h, hl, h3, hs⟩
  next => obtain ⟨v, hv, hh⟩ := xmap e; cases hh; obtain ⟨u, lo, hi, h1, h2, h3⟩ := jld_ok h.2.1 hl hv; obtain ⟨x, rfl, -⟩ := h2.int; exact ⟨ls, .int x :: st, w, by simp [xs1, xldi, h1], jLe.refl w, h, hl, h3, hs⟩
  next => obtain ⟨v, hv, hh⟩ := xmap e; cases hh; obtain ⟨u, lo, hi, h1, h2, h3⟩ := jld_ok h.2.1 hl hv; obtain ⟨x, rfl, -⟩ := h2.long; exact ⟨ls, .long x :: st, w, by simp [xs1, xldl, h1], jLe.refl w, h, hl, h3, hs⟩
  next => obtain ⟨v, hv, hh⟩ := xmap e; cases hh; obtain ⟨u, lo, hi, h1, h2, h3⟩ := jld_ok h.2.1 hl hv; obtain ⟨x, rfl, -⟩ := h2.long; exact ⟨ls, .long x :: st, w, by simp [xs1, xldl, h1], jLe.refl w, h, hl, h3, hs⟩
  next => obtain ⟨v, hv, hh⟩ := xmap e; cases hh; obtain ⟨u, h1, h3⟩ := jlr_ok hl hv; exact ⟨ls, u :: st, w, by simp [xs1, h1], jLe.refl w, h, hl, h3, hs⟩
  next => obtain ⟨v, hv, hh⟩ := xmap e; cases hh; obtain ⟨u, h1, h3⟩ := jlr_ok hl hv; exact ⟨ls, u :: st, w, by simp [xs1, h1], jLe.refl w, h, hl, h3, hs⟩
  next =>
    obtain ⟨hz, e⟩ := xbif e; cases e
    rw [Bool.and_eq_true] at hz
    obtain ⟨v, vs, rfl, g1, g2⟩ := hs.cons
    obtain ⟨x, rfl, -⟩ := (jin_ok h.2.1 hz.1 g1).int
    exact ⟨_, _, w, by simp only [xs1, hz.2, cond_true], jLe.refl w, h, js1_ok h.2.1 hl g1, g2⟩
  next =>
    obtain ⟨hz, e⟩ := xbif e; cases e
    rw [Bool.and_eq_true] at hz
    obtain ⟨v, vs, rfl, g1, g2⟩ := hs.cons
    obtain ⟨x, rfl, -⟩ := (jin_ok h.2.1 hz.1 g1).int
    exact ⟨_, _, w, by simp only [xs1, hz.2, cond_true], jLe.refl w, h, js1_ok h.2.1 hl g1, g2⟩
  next =>
    obtain ⟨hz, e⟩ := xbif e; cases e
    rw [Bool.and_eq_true] at hz
    obtain ⟨v, vs, rfl, g1, g2⟩ := hs.cons
    obtain ⟨x, rfl, -⟩ := (jin_ok h.2.1 hz.1 g1).long
    exact ⟨_, _, w, by simp only [xs1, hz.2, cond_true], jLe.refl w, h, js2_ok h.2.1 hl g1, g2⟩
  next =>
    obtain ⟨hz, e⟩ := xbif e; cases e
    rw [Bool.and_eq_true] at hz
    obtain ⟨v, vs, rfl, g1, g2⟩ := hs.cons
    obtain ⟨x, rfl, -⟩ := (jin_ok h.2.1 hz.1 g1).long
    exact ⟨_, _, w, by simp only [xs1, hz.2, cond_true], jLe.refl w, h, js2_ok h.2.1 hl g1, g2⟩
  next =>
    split at e
    next a ha =>
      obtain ⟨hk, e⟩ := xbif e
      obtain ⟨z, hz, e⟩ := xmap e
      cases e
      obtain ⟨u, lo, hi, h1, h2, h3⟩ := jld_ok h.2.1 hl ha
      obtain ⟨x, rfl, -⟩ := h2.int
      obtain ⟨v, w', k1, k2, k3, k4⟩ := jar_ok h hz h3 (show jR w (.inl (.int (Int32.ofInt _))) _ from rfl)
      cases k1
      exact ⟨_, _, w', by simp only [xs1, xldi, h1, hk, cond_true], k2, k3, js1_ok k3.2.1 (hl.mono k2) k4, hs.mono k2⟩
    next => cases e
  next =>
    obtain ⟨hk, e⟩ := xbif e; cases e
    obtain ⟨v, vs, rfl, g1, g2⟩ := hs.cons
    exact ⟨ls, v :: v :: vs, w, by simp only [xs1]; rw [if_pos (jcat_1 h.2.1 g1 hk)], jLe.refl w, h, hl, g1, g1, g2⟩
  next =>
    obtain ⟨hk, e⟩ := xbif e; cases e
    obtain ⟨v, vs, rfl, g1, g2⟩ := hs.cons
    exact ⟨ls, vs, w, by simp only [xs1]; rw [if_pos (jcat_1 h.2.1 g1 hk)], jLe.refl w, h, hl, g2⟩
  next =>
    obtain ⟨hk, e⟩ := xbif e; cases e
    rw [Bool.and_eq_true] at hk
    obtain ⟨v, vs, rfl, g1, g2⟩ := hs.cons
    obtain ⟨v2, vs2, rfl, g3, g4⟩ := g2.cons
    exact ⟨ls, v :: v2 :: v :: v2 :: vs2, w, by simp only [xs1]; rw [if_pos ⟨jcat_1 h.2.1 g1 hk.1, jcat_1 h.2.1 g3 hk.2⟩], jLe.refl w, h, hl, g1, g3, g1, g3, g4⟩
  next =>
    obtain ⟨v, vs, rfl, g1, g2⟩ := hs.cons
    split at e
    next o ho =>
      obtain ⟨z, hz, e⟩ := xmap e
      cases e
      obtain ⟨u, w', k1, k2, k3, k4⟩ := jar_ok h hz g1 (show jR w (.inl (.int 0)) (.int 0) from rfl)
      exact ⟨ls, u :: vs, w', juo_ok ho k1 own nL ls vs, k2, k3, hl.mono k2, k4, g2.mono k2⟩
    next =>
      split at e
      next o b st1 ho hx =>
        obtain ⟨v2, vs2, rfl, g3, g4⟩ := g2.cons
        obtain ⟨z, hz, e⟩ := xmap e
        cases e
        obtain ⟨u, w', k1, k2, k3, k4⟩ := jar_ok h hz g3 g1
        exact ⟨ls, u :: vs2, w', jbo_ok ho k1 own nL ls vs2, k2, k3, hl.mono k2, k4, g4.mono k2⟩
      next => cases e
  next => cases e
def jRo (w : jP) : Option jV → Option Value → Prop
  | none, none => True
  | some a, some v => jR w a v
  | _, _ => False
theorem jrt_ok {G : jGt} {ret : Nat} {i : Instr} {ast : List jV} {w : jP} {g : jS} {st : List Value} {p : xH} {ra : Option jV} (h : jSt G w g p) (e : jrt ret i ast g = some ra) (hs : jSl w ast st) :
    (∀ own nL ls, xs1 own nL i ls st = none) ∧ (∀ pc, xbr i pc st = none) ∧ (∀ ro own kind h, xho ro own kind i st h = none) ∧ ∃ r, xrt ret i st = some r ∧ jRo w ra r := by
  unfold jrt at e
  split at e
  next =>
    obtain ⟨h0, e⟩ := xbif e
    cases e
    cases hs.nil
    exact ⟨fun _ _ _ => rfl, fun _ => rfl, fun _ _ _ _ => rfl, none, by simp only [xrt, h0, cond_true], trivial⟩
  next a =>
    obtain ⟨v, vs, rfl, g1, g2⟩ := hs.cons
    cases g2.nil
    cases h1 : (Nat.beq ret 1 && jin g a 0 (-2147483648) 2147483647) with
    | true =>
      rw [h1] at e
      cases e
      rw [Bool.and_eq_true] at h1
      obtain ⟨x, rfl, -⟩ := (jin_ok h.2.1 h1.2 g1).int
      exact ⟨fun _ _ _ => rfl, fun _ => rfl, fun _ _ _ _ => rfl, some (.int x), by simp only [xrt, h1.1, cond_true], jnm_ok h.2.1 g1⟩
    | false =>
      rw [h1, cond_false] at e
      obtain ⟨h2, e⟩ := xbif e
      cases e
      rw [Bool.and_eq_true] at h2
      obtain ⟨x, rfl, h01⟩ := j01 (jin_ok h.2.1 h2.2 g1)
      have hr : ret = 2 := Nat.eq_of_beq_eq_true h2.1
      subst hr
      refine ⟨fun _ _ _ => rfl, fun _ => rfl, fun _ _ _ _ => rfl, some (.int x), ?_, jnm_ok h.2.1 g1⟩
      show (bif Nat.beq 2 1 then some (some (Value.int x)) else bif Nat.beq 2 2 && (x == 0 || x == 1) then some (some (.int x)) else none) = _
      rw [h01]
      rfl
  next a =>
    obtain ⟨v, vs, rfl, g1, g2⟩ := hs.cons
    cases g2.nil
    obtain ⟨h0, e⟩ := xbif e
    cases e
    rw [Bool.and_eq_true] at h0
    obtain ⟨x, rfl, -⟩ := (jin_ok h.2.1 h0.2 g1).long
    exact ⟨fun _ _ _ => rfl, fun _ => rfl, fun _ _ _ _ => rfl, some (.long x), by simp only [xrt, h0.1, cond_true], jnm_ok h.2.1 g1⟩
  next => cases e
theorem jtk_ok {w : jP} : ∀ (n : Nat) {acc as rest ast : List jV} {cacc st : List Value}, jtk n acc ast = some (as, rest) → jSl w acc cacc → jSl w ast st → ∃ cas crest, xtk n cacc st = some (cas, crest) ∧ jSl w as cas ∧ jSl w rest crest
  | 0, acc, as, rest, ast, cacc, st, h, h1, h2 => by
    simp only [jtk, Option.some.injEq, Prod.mk.injEq] at h
    obtain ⟨rfl, rfl⟩ := h
    exact ⟨cacc, st, rfl, h1, h2⟩
  | n + 1, acc, as, rest, [], cacc, st, h, h1, h2 => by simp [jtk] at h
  | n + 1, acc, as, rest, a :: ast, cacc, st, h, h1, h2 => by
    obtain ⟨v, vs, rfl, g1, g2⟩ := h2.cons
    rw [jtk] at h
    exact jtk_ok n h (cacc := v :: cacc) ⟨g1, h1⟩ g2
theorem jcs_ok {w : jP} {g : jS} (h : jT w g.2.1) : ∀ {as : List jV} {vs : List Value}, jSl w as vs → xcs vs ≤ jcs g as
  | [], [], _ => Nat.le_refl _
  | [], _ :: _, e => absurd e (by simp [jSl])
  | _ :: _, [], e => absurd e (by simp [jSl])
  | a :: as, v :: vs, e => by
    have h1 := jcat_le h e.1
    have h2 := jcs_ok h e.2
    simp only [xcs, List.map_cons, List.sum_cons, jcs] at h2 ⊢
    omega
theorem jkw_cat {w : jP} {g : jS} (h : jT w g.2.1) {a : jV} {v : Value} (k : jR w a v) (e : jkw1 g a = true) : v.category = jcat g a := by
  cases a with
  | inl u => cases k; rfl
  | inr s =>
    unfold jkw1 at e
    dsimp only at e
    split at e
    next q hq =>
      obtain ⟨u, u1, u2, -⟩ := jrow_of h hq
      cases jR.one k (show jR w (.inr s) u from u1)
      unfold jcat
      dsimp only
      rw [hq]
      have e := Nat.le_of_ble_eq_true e
      rcases (show q.1 = 0 ∨ q.1 = 1 by omega) with z | z
      · rw [z] at u2
        obtain ⟨x, rfl, -⟩ := u2.int
        dsimp only
        rw [z]; rfl
      · rw [z] at u2
        obtain ⟨x, rfl, -⟩ := u2.long
        dsimp only
        rw [z]; rfl
    next => cases e
theorem jlv_ok {w : jP} {g : jS} (h : jT w g.2.1) : ∀ {as : List jV} {vs : List Value} (i : Nat), jSl w as vs → jkw g as = true → ∀ q ∈ jlv g i as, i ≤ q.1 ∧ ∃ v, xfd (lv_args i vs) q.1 = some v ∧ jR w q.2 v
  | [], _, i, _, _, q, hq => absurd hq List.not_mem_nil
  | _ :: _, [], _, e, _, _, _ => absurd e (by simp [jSl])
  | a :: as, v :: vs, i, e, hk, q, hq => by
    unfold jkw at hk
    rw [List.all_cons, Bool.and_eq_true] at hk
    unfold lv_args
    rcases List.mem_cons.mp hq with rfl | hq
    · exact ⟨Nat.le_refl _, v, by rw [xfd_cons, Nat.beq_refl]; rfl, e.1⟩
    · have hc := jkw_cat h e.1 hk.1
      have step : ∀ j : Nat, i < j → q ∈ jlv g j as → i ≤ q.1 ∧ ∃ u, xfd ((i, v) :: lv_args j vs) q.1 = some u ∧ jR w q.2 u := fun j hj hm => by
        obtain ⟨h1, u, h2, h3⟩ := jlv_ok h j e.2 hk.2 q hm
        refine ⟨by omega, u, ?_, h3⟩
        rw [xfd_cons]
        have hb : Nat.beq i q.1 = false := by
          cases hb : Nat.beq i q.1 with
          | false => rfl
          | true => have := Nat.eq_of_beq_eq_true hb; omega
        rw [hb]
        exact h2
      cases h2 : Nat.beq (jcat g a) 2 with
      | true =>
        rw [h2] at hq
        have : v.category = 2 := hc.trans (Nat.eq_of_beq_eq_true h2)
        rw [if_pos this]
        exact step (i + 2) (by omega) hq
      | false =>
        rw [h2] at hq
        have : ¬ v.category = 2 := fun z => by rw [hc] at z; rw [z] at h2; cases h2
        rw [if_neg this]
        exact step (i + 1) (by omega) hq
theorem jLs_args {w : jP} {g : jS} (h : jT w g.2.1) {as : List jV} {vs : List Value} (e : jSl w as vs) (hk : jkw g as = true) : jLs w (jlv g 0 as) (lv_args 0 vs) := fun q hq => (jlv_ok h 0 e hk q hq).2
theorem jgc_tag {G : jGt} {w : jP} {g : jS} {p : xH} (h : jSt G w g p) {r : Nat} {b : jG1} (e : jgc G r = some b) : ∃ cv, p[r]? = some (b.1, cv) := by
  obtain ⟨⟨c1, c2⟩, h1, h2, -⟩ := h.2.2.2.2 _ _ e
  have h2 : c1 = b.1 := h2
  subst h2
  exact ⟨c2, h1⟩
set_option maxHeartbeats 2000000 in
theorem jca_ok {G : jGt} {own : Nat} {i : Instr} {ast : List jV} {w : jP} {g : jS} {st : List Value} {p : xH} {y : Nat} {as rest : List jV} (h : jSt G w g p) (e : jca G own i ast = some (y, as, rest)) (hs : jSl w ast st) :
    (∀ own nL ls, xs1 own nL i ls st = none) ∧ (∀ pc, xbr i pc st = none) ∧ (∀ ro kind h, xho ro own kind i st h = none) ∧ (∀ ret, xrt ret i st = none) ∧ xob own i st = none ∧ xmm own i st = none ∧ xay own i st p = none ∧ ∃ cas crest, xca own i st p = some (y, cas, crest) ∧ jSl w as cas ∧ jSl w rest crest := by
  unfold jca at e
  split at e
  next idx =>
    split at e
    next y0 n pl nest hC =>
      split at e
      next o x1 kind x2 as0 r rest0 hM hT =>
        split at e
        next t fs hg =>
          obtain ⟨hz, e⟩ := xbif e
          cases e
          obtain ⟨cas, crest, k1, k2, k3⟩ := jtk_ok (w := w) n hT (cacc := []) trivial hs
          obtain ⟨v, vs, rfl, g1, g2⟩ := k3.cons
          cases g1
          obtain ⟨cv, hcv⟩ := jgc_tag h hg
          refine ⟨fun _ _ _ => rfl, fun _ => rfl, fun _ _ _ => rfl, fun _ => rfl, ?_, ?_, ?_, .ref r :: cas, vs, ?_, ⟨rfl, k2⟩, g2⟩
          · unfold xob; split <;> first | rfl | (cases ‹Instr.invokevirtual _ = _›)
          · unfold xmm; split <;> first | rfl | (cases ‹Instr.invokevirtual _ = _›)
          · unfold xay; split <;> first | rfl | (cases ‹Instr.invokevirtual _ = _›)
          · simp only [xca, hC, hM, k1, hcv]
            rw [hz]
            rfl
        next => cases e
      next => cases e
    next => cases e
  next idx =>
    split at e
    next y0 n pl nest hC =>
      split at e
      next o x1 kind x2 as0 rest0 hM hT =>
        obtain ⟨hz, e⟩ := xbif e
        cases e
        obtain ⟨cas, crest, k1, k2, k3⟩ := jtk_ok (w := w) n hT (cacc := []) trivial hs
        have hy : Nat.blt y xOw = true := by rw [Bool.and_eq_true, Bool.and_eq_true] at hz; exact hz.1.1
        refine ⟨fun _ _ _ => rfl, fun _ => rfl, fun _ _ _ => rfl, fun _ => rfl, ?_, ?_, xay_none hC st p, cas, crest, ?_, k2, k3⟩
        · unfold xob; split <;> first | rfl | (cases ‹Instr.invokestatic _ = _›)
        · unfold xmm
          split
          next idx' yy xx rest' heq =>
            cases heq
            rw [hC]
            have h1 : Nat.beq y xMx = false := by
              cases hb : Nat.beq y xMx with
              | false => rfl
              | true => rw [Nat.eq_of_beq_eq_true hb] at hy; revert hy; decide
            have h2 : Nat.beq y xMn = false := by
              cases hb : Nat.beq y xMn with
              | false => rfl
              | true => rw [Nat.eq_of_beq_eq_true hb] at hy; revert hy; decide
            dsimp only
            rw [h1, h2]
            cases Nat.beq nest 0 <;> rfl
          next => rfl
        · simp only [xca, hC, hM, k1]
          rw [hz]
          rfl
      next => cases e
    next => cases e
  next => cases e
theorem jmm_ok {G : jGt} {own : Nat} {i : Instr} {ast rest : List jV} {w : jP} {g g' : jS} {st : List Value} {p : xH} (h : jSt G w g p) (e : jmm own i ast g = some (rest, g')) (hs : jSl w ast st) :
    (∀ own nL ls, xs1 own nL i ls st = none) ∧ (∀ pc, xbr i pc st = none) ∧ (∀ ro own kind h, xho ro own kind i st h = none) ∧ (∀ ret, xrt ret i st = none) ∧ xob own i st = none ∧ ∃ crest w', xmm own i st = some crest ∧ jLe w w' ∧ jSt G w' g' p ∧ jSl w' rest crest ∧ ∃ v vs, crest = v :: vs ∧ v.category = 1 ∧ jSl w (rest.drop 1) vs := by
  unfold jmm at e
  split at e
  next idx b a rest0 =>
    obtain ⟨v1, vs1, rfl, g1, g2⟩ := hs.cons
    obtain ⟨v2, vs2, rfl, g3, g4⟩ := g2.cons
    split at e
    next m x1 x2 nest hC =>
      obtain ⟨hn, e⟩ := xbif e
      refine ⟨fun _ _ _ => rfl, fun _ => rfl, fun _ _ _ _ => rfl, fun _ => rfl, ?_, ?_⟩
      · unfold xob; split <;> first | rfl | (cases ‹Instr.invokestatic _ = _›)
      · cases h1 : Nat.beq m xMx with
        | true =>
          rw [h1] at e
          obtain ⟨z, hz, e⟩ := xmap e
          cases e
          obtain ⟨v, w', k1, k2, k3, k4⟩ := jar_ok h hz g3 g1
          cases v2 <;> first | (cases k1; done) | skip
          next x =>
          cases v1 <;> first | (cases k1; done) | skip
          next y =>
          cases k1
          exact ⟨.int (if x < y then y else x) :: vs2, w', by simp only [xmm, hC, hn, h1, cond_true], k2, k3, ⟨k4, g4.mono k2⟩, _, vs2, rfl, rfl, g4⟩
        | false =>
          rw [h1, cond_false] at e
          obtain ⟨h2, e⟩ := xbif e
          obtain ⟨z, hz, e⟩ := xmap e
          cases e
          obtain ⟨v, w', k1, k2, k3, k4⟩ := jar_ok h hz g3 g1
          cases v2 <;> first | (cases k1; done) | skip
          next x =>
          cases v1 <;> first | (cases k1; done) | skip
          next y =>
          cases k1
          exact ⟨.int (if y < x then y else x) :: vs2, w', by simp only [xmm, hC, hn, h1, h2, cond_true, cond_false], k2, k3, ⟨k4, g4.mono k2⟩, _, vs2, rfl, rfl, g4⟩
    next => cases e
  next => cases e
end
