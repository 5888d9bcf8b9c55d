noncomputable section
/-! the bounded machine is sound: arithmetic, branches -/
theorem jde_ok {d e : Option jD} (h : jde d e = true) : ∃ c, d = some c ∧ e = some c := by
  unfold jde at h
  split at h
  next a b =>
    simp only [Bool.and_eq_true] at h
    obtain ⟨a1, a2, a3⟩ := a
    obtain ⟨b1, b2, b3⟩ := b
    have h1 : a1 = b1 := Nat.eq_of_beq_eq_true h.1.1
    have h2 : a2 = b2 := jve_ok h.1.2
    have h3 : a3 = b3 := jve_ok h.2
    subst h1 h2 h3
    exact ⟨_, rfl, rfl⟩
  next => cases h
theorem jvn_ok : ∀ {tb : jTb} {d : jD} {s : Nat}, jvn tb (some d) = some s → ∃ q, (s, q) ∈ tb ∧ q.2.2.2 = some d
  | [], d, s, h => by cases h
  | q :: t, d, s, h => by
    rw [jvn_cons] at h
    cases hb : jde q.2.2.2.2 (some d) with
    | true =>
      rw [hb] at h
      cases h
      obtain ⟨c, h1, h2⟩ := jde_ok hb
      cases h2
      exact ⟨q.2, List.mem_cons_self, h1⟩
    | false =>
      rw [hb] at h
      obtain ⟨q', h1, h2⟩ := jvn_ok h
      exact ⟨q', List.mem_cons_of_mem _ h1, h2⟩
theorem jdk_ok {o : Nat} {l h : Int} {y : Value} (e : jdk o l h = true) (h1 : l ≤ jz y) (h2 : jz y ≤ h) : jvo o = true ∧ ((Nat.beq o 4 || Nat.beq o 5) = true → jz y ≠ 0) := by
  unfold jdk at e
  rw [Bool.and_eq_true] at e
  refine ⟨e.1, fun ho => ?_⟩
  have e2 := e.2
  rw [ho, cond_true, Bool.or_eq_true, decide_eq_true_eq, decide_eq_true_eq] at e2
  omega
theorem jvo_0 {o : Nat} (h : jvo o = true) : o ≠ 0 := fun e => by rw [e] at h; cases h
theorem jar1_ok {G : jGt} {r : jP} {g g' : jS} {p : xH} {o : Nat} {a b c : jV} {x y : Value} (h : jSt G r g p) (e : jar1 g o a b = some (c, g')) (hx : jR r a x) (hy : jR r b y) : ∃ v r', jop o x y = some v ∧ jLe r r' ∧ jSt G r' g' p ∧ jR r' c v := by
  unfold jar1 at e
  split at e
  next q1 q2 h1 h2 =>
    obtain ⟨hc, e⟩ := xbif e
    simp only [Bool.and_eq_true] at hc
    have i1 := jbd_ok h.2.1 h1 hx
    have i2 := jbd_ok h.2.1 h2 hy
    have k1 := Nat.eq_of_beq_eq_true hc.1.1
    have k2 := Nat.eq_of_beq_eq_true hc.1.2
    obtain ⟨d1, d2⟩ := jdk_ok hc.2 i2.2.1 i2.2.2
    obtain ⟨v, hv⟩ := jop_ex (x := x) (y := y) d1 (i1.1.trans k1) (i2.1.trans k2) d2
    rw [k1] at i1
    rw [k2] at i2
    have iv := jop_ok (a := q1.2) (b := q2.2) hv i1 i2
    split at e
    next s hs =>
      obtain ⟨g2, f1, f2⟩ := xmap e
      cases f2
      obtain ⟨q, m1, m2⟩ := jvn_ok hs
      obtain ⟨w, w1, w2, w3⟩ := h.2.1 _ m1
      rw [m2] at w3
      obtain ⟨x', y', w4, w5, -, w7⟩ := w3
      obtain ⟨w7, -⟩ := w7 (jvo_0 d1)
      cases hx.one w4
      cases hy.one w5
      have w7 : jop o x y = some w := w7
      rw [hv] at w7
      cases w7
      obtain ⟨g3, f3, f4⟩ := jcut_ok 3 h (show jR r (.inr s) v from w1) iv.2.1 iv.2.2
      rw [f1] at f3
      cases f3
      exact ⟨v, r, hv, jLe.refl r, f4, jnm_ok f4.2.1 w1⟩
    next hs =>
      cases e
      obtain ⟨l1, l2, l3⟩ := jfr_ok h (q := ((jkd o).2.2, (jbn o q1.2 q2.2).1, (jbn o q1.2 q2.2).2, some (o, a, b))) iv ⟨x, y, hx, hy, fun z => absurd z (jvo_0 d1), fun _ => ⟨hv, i1.1, i2.1⟩⟩
      exact ⟨v, _, hv, l1, l2, l3⟩
  next => cases e
theorem jsw1 (x y : Value) : jop 1 y x = jop 1 x y := by
  cases x <;> cases y <;> simp [jop, Int32.add_comm]
theorem jsw3 (x y : Value) : jop 3 y x = jop 3 x y := by
  cases x <;> cases y <;> simp [jop, Int32.mul_comm]
theorem jop_sw {o : Nat} {a : jV} {x y : Value} (h : jsw o a = true) : jop o y x = jop o x y := by
  unfold jsw at h
  simp only [Bool.and_eq_true, Bool.or_eq_true] at h
  rcases h.1 with h1 | h1
  · rw [Nat.eq_of_beq_eq_true h1]; exact jsw1 x y
  · rw [Nat.eq_of_beq_eq_true h1]; exact jsw3 x y
theorem jar2_ok {G : jGt} {r : jP} {g g' : jS} {p : xH} {o : Nat} {a b c : jV} {x y : Value} (h : jSt G r g p) (e : jar2 g o a b = some (c, g')) (hx : jR r a x) (hy : jR r b y) : ∃ v r', jop o x y = some v ∧ jLe r r' ∧ jSt G r' g' p ∧ jR r' c v := by
  unfold jar2 at e
  split at e
  next u w =>
    obtain ⟨v, e1, e2⟩ := xmap e
    cases e2
    cases hx
    cases hy
    exact ⟨v, r, e1, jLe.refl r, h, rfl⟩
  next =>
    cases hb : jsw o a with
    | true =>
      rw [hb] at e
      obtain ⟨v, r', h1, h2, h3, h4⟩ := jar1_ok h e hy hx
      exact ⟨v, r', by rw [← h1]; exact (jop_sw hb).symm, h2, h3, h4⟩
    | false =>
      rw [hb] at e
      exact jar1_ok h e hx hy
theorem jar_ok {G : jGt} {r : jP} {g g' : jS} {p : xH} {o : Nat} {a b c : jV} {x y : Value} (h : jSt G r g p) (e : jar g o a b = some (c, g')) (hx : jR r a x) (hy : jR r b y) : ∃ v r', jop o x y = some v ∧ jLe r r' ∧ jSt G r' g' p ∧ jR r' c v :=
  jar2_ok h e (jnm_ok h.2.1 hx) (jnm_ok h.2.1 hy)
/-! branches -/
theorem jzb (v : Value) : -9223372036854775808 ≤ jz v ∧ jz v ≤ 9223372036854775807 := by
  cases v with
  | int x => have := j32 x; show -9223372036854775808 ≤ x.toInt ∧ x.toInt ≤ _; omega
  | long x => exact j64 x
  | _ => exact ⟨show (-9223372036854775808 : Int) ≤ 0 by decide, show (0 : Int) ≤ 9223372036854775807 by decide⟩
theorem jfa_ok {G : jGt} {r : jP} {g : jS} {p : xH} {a b : jV} {x y : Value} {lo hi : Int} (h : jSt G r g p) (hx : jR r a x) (hy : jR r b y) (hz : ∀ v, jop 23 x y = some v → lo ≤ jz v ∧ jz v ≤ hi) : ∃ g' r', jfa g a b lo hi = some g' ∧ jLe r r' ∧ jSt G r' g' p := by
  unfold jfa
  split
  next s t =>
    split
    next z hz1 =>
      obtain ⟨c, g1⟩ := z
      obtain ⟨v, r', h1, h2, h3, h4⟩ := jar1_ok h hz1 hx hy
      obtain ⟨g2, f1, f2⟩ := jcut_ok 0 h3 h4 (hz v h1).1 (hz v h1).2
      exact ⟨g2, r', f1, h2, f2⟩
    next => exact ⟨g, r, rfl, jLe.refl r, h⟩
  next => exact ⟨g, r, rfl, jLe.refl r, h⟩
theorem jop23 {x y : Int32} {v : Value} (h : jop 23 (.int x) (.int y) = some v) : (x.toInt < y.toInt → jz v = -1) ∧ (y.toInt ≤ x.toInt → 0 ≤ jz v ∧ jz v ≤ 1) := by
  have h : some (Value.int (if x < y then (-1 : Int32) else if x = y then 0 else 1)) = some v := h
  cases h
  obtain ⟨j1, j2, j3⟩ := jic x y
  refine ⟨fun z => ?_, fun z => ?_⟩
  · show (if x < y then (-1 : Int32) else if x = y then 0 else 1).toInt = -1
    rw [j1 z]; rfl
  · show 0 ≤ (if x < y then (-1 : Int32) else if x = y then 0 else 1).toInt ∧ (if x < y then (-1 : Int32) else if x = y then 0 else 1).toInt ≤ 1
    rcases Int.lt_or_eq_of_le z with z | z
    · rw [j2 z]; exact ⟨by decide, by decide⟩
    · rw [j3 z.symm]; exact ⟨by decide, by decide⟩
theorem jop23i {x y v : Value} (h : jop 23 x y = some v) : ∃ u w, x = .int u ∧ y = .int w := by
  cases x <;> cases y <;> first | (exact ⟨_, _, rfl, rfl⟩) | (cases h; done)
theorem jlt_ok {G : jGt} {r : jP} {g : jS} {p : xH} {a b : jV} {x y : Value} (h : jSt G r g p) (hx : jR r a x) (hy : jR r b y) (hz : jz x < jz y) : ∃ g' r', jlt g a b = some g' ∧ jLe r r' ∧ jSt G r' g' p := by
  obtain ⟨g1, r1, f1, f2, f3⟩ := jfa_ok (lo := -1) (hi := -1) h hx hy (fun v hv => by
    obtain ⟨u, w, rfl, rfl⟩ := jop23i hv
    have := (jop23 hv).1 hz
    omega)
  unfold jlt
  rw [f1, Option.bind_some]
  have hx1 := hx.mono f2
  have hy1 := hy.mono f2
  split
  next q1 q2 h1 h2 =>
    have i2 := jbd_ok f3.2.1 h2 hy1
    obtain ⟨g2, e1, e2⟩ := jcut_ok 4 (lo := -9223372036854775808) (hi := q2.2.2 - 1) f3 hx1 (jzb x).1 (by have := i2.2.2; omega)
    rw [e1, Option.bind_some]
    split
    next q3 h3 =>
      have i3 := jbd_ok e2.2.1 h3 hx1
      obtain ⟨g3, e3, e4⟩ := jcut_ok 4 (lo := q3.2.1 + 1) (hi := 9223372036854775807) e2 hy1 (by have := i3.2.1; omega) (jzb y).2
      exact ⟨g3, r1, e3, f2, e4⟩
    next => exact ⟨g2, r1, rfl, f2, e2⟩
  next => exact ⟨g1, r1, rfl, f2, f3⟩
theorem jge_ok {G : jGt} {r : jP} {g : jS} {p : xH} {a b : jV} {x y : Value} (h : jSt G r g p) (hx : jR r a x) (hy : jR r b y) (hz : jz y ≤ jz x) : ∃ g' r', jge g a b = some g' ∧ jLe r r' ∧ jSt G r' g' p := by
  obtain ⟨g1, r1, f1, f2, f3⟩ := jfa_ok (lo := 0) (hi := 1) h hx hy (fun v hv => by
    obtain ⟨u, w, rfl, rfl⟩ := jop23i hv
    exact (jop23 hv).2 hz)
  unfold jge
  rw [f1, Option.bind_some]
  have hx1 := hx.mono f2
  have hy1 := hy.mono f2
  split
  next q1 q2 h1 h2 =>
    have i2 := jbd_ok f3.2.1 h2 hy1
    obtain ⟨g2, e1, e2⟩ := jcut_ok 4 (lo := q2.2.1) (hi := 9223372036854775807) f3 hx1 (by have := i2.2.1; omega) (jzb x).2
    rw [e1, Option.bind_some]
    split
    next q3 h3 =>
      have i3 := jbd_ok e2.2.1 h3 hx1
      obtain ⟨g3, e3, e4⟩ := jcut_ok 4 (lo := -9223372036854775808) (hi := q3.2.2) e2 hy1 (jzb y).1 (by have := i3.2.2; omega)
      exact ⟨g3, r1, e3, f2, e4⟩
    next => exact ⟨g2, r1, rfl, f2, e2⟩
  next => exact ⟨g1, r1, rfl, f2, f3⟩
theorem jeq_ok {G : jGt} {r : jP} {g : jS} {p : xH} {a b : jV} {x y : Value} (h : jSt G r g p) (hx : jR r a x) (hy : jR r b y) (hz : jz x = jz y) : ∃ g', jeq g a b = some g' ∧ jSt G r g' p := by
  unfold jeq
  split
  next q1 q2 h1 h2 =>
    have i1 := jbd_ok h.2.1 h1 hx
    have i2 := jbd_ok h.2.1 h2 hy
    obtain ⟨g2, e1, e2⟩ := jcut_ok 4 (lo := q2.2.1) (hi := q2.2.2) h hx (by have := i2.2.1; omega) (by have := i2.2.2; omega)
    obtain ⟨g3, e3, e4⟩ := jcut_ok 4 (lo := q1.2.1) (hi := q1.2.2) e2 hy (by have := i1.2.1; omega) (by have := i1.2.2; omega)
    exact ⟨g3, by rw [e1, Option.bind_some, e3], e4⟩
  next => exact ⟨g, rfl, h⟩
theorem jgq_ok {r : jP} {g : jS} {a b : jV} {x y : Value} (h : jT r g.2.1) (e : jgq g b a = true) (hx : jR r a x) (hy : jR r b y) : jz x ≤ jz y := by
  unfold jgq at e
  split at e
  next s =>
    split at e
    next q hq =>
      split at e
      next c d hd =>
        obtain ⟨w, w1, w2, w3⟩ := jrow_of h hq
        rw [hd] at w3
        obtain ⟨x', y', w4, w5, w6, -⟩ := w3
        have hc := jve_ok e
        subst hc
        cases hx.one w4
        cases hy.one (show jR r (.inr s) w from w1)
        exact (w6 rfl).2
      next => cases e
    next => cases e
  next => cases e
theorem jmem {α : Type} {o : Option α} {x : α} (h : o = some x) : x ∈ o.toList := by rw [h]; exact List.mem_singleton.mpr rfl
theorem jne_ok {G : jGt} {r : jP} {g : jS} {p : xH} {a b : jV} {x y : Value} (h : jSt G r g p) (hx : jR r a x) (hy : jR r b y) (hz : jz x ≠ jz y) : ∃ g' ∈ jne g a b, ∃ r', jLe r r' ∧ jSt G r' g' p := by
  unfold jne
  cases hb : jgq g b a with
  | true =>
    have := jgq_ok h.2.1 hb hx hy
    obtain ⟨g', r', e1, e2, e3⟩ := jlt_ok h hx hy (by omega)
    exact ⟨g', jmem e1, r', e2, e3⟩
  | false =>
    rw [cond_false]
    cases hc : jgq g a b with
    | true =>
      have := jgq_ok h.2.1 hc hy hx
      obtain ⟨g', r', e1, e2, e3⟩ := jlt_ok h hy hx (by omega)
      exact ⟨g', jmem e1, r', e2, e3⟩
    | false =>
      rw [cond_false]
      split
      next q1 q2 h1 h2 =>
        have i1 := jbd_ok h.2.1 h1 hx
        have i2 := jbd_ok h.2.1 h2 hy
        have := i1.2.1
        have := i1.2.2
        have := i2.2.1
        have := i2.2.2
        cases hd : decide (q2.2.1 = q2.2.2) with
        | true =>
          have hd := of_decide_eq_true hd
          rcases Int.lt_or_gt_of_ne hz with z | z
          · obtain ⟨g2, e1, e2⟩ := jcut_ok 4 (lo := -9223372036854775808) (hi := q2.2.1 - 1) h hx (jzb x).1 (by omega)
            exact ⟨g2, List.mem_append.mpr (Or.inl (jmem e1)), r, jLe.refl r, e2⟩
          · obtain ⟨g2, e1, e2⟩ := jcut_ok 4 (lo := q2.2.1 + 1) (hi := 9223372036854775807) h hx (by omega) (jzb x).2
            exact ⟨g2, List.mem_append.mpr (Or.inr (jmem e1)), r, jLe.refl r, e2⟩
        | false =>
          rw [cond_false]
          cases hd2 : decide (q1.2.1 = q1.2.2) with
          | true =>
            have hd2 := of_decide_eq_true hd2
            rcases Int.lt_or_gt_of_ne hz with z | z
            · obtain ⟨g2, e1, e2⟩ := jcut_ok 4 (lo := q1.2.1 + 1) (hi := 9223372036854775807) h hy (by omega) (jzb y).2
              exact ⟨g2, List.mem_append.mpr (Or.inr (jmem e1)), r, jLe.refl r, e2⟩
            · obtain ⟨g2, e1, e2⟩ := jcut_ok 4 (lo := -9223372036854775808) (hi := q1.2.1 - 1) h hy (jzb y).1 (by omega)
              exact ⟨g2, List.mem_append.mpr (Or.inl (jmem e1)), r, jLe.refl r, e2⟩
          | false => exact ⟨g, List.mem_singleton.mpr rfl, r, jLe.refl r, h⟩
      next => exact ⟨g, List.mem_singleton.mpr rfl, r, jLe.refl r, h⟩
def jcd (c : ClassFile.Cond) (x y : Int) : Prop := match c with
  | .eq => x = y
  | .ne => x ≠ y
  | .lt => x < y
  | .ge => y ≤ x
  | .gt => y < x
  | .le => x ≤ y
theorem jcd_ng {c : ClassFile.Cond} {x y : Int} (h : ¬ jcd c x y) : jcd (jng c) x y := by
  cases c <;> simp only [jcd, jng] at h ⊢ <;> omega
theorem xcmp_j {c : ClassFile.Cond} {x y : Int32} : xcmp c x y = true ↔ jcd c x.toInt y.toInt := by
  cases c
  · exact decide_eq_true_iff.trans Int32.toInt_inj.symm
  · exact decide_eq_true_iff.trans (not_congr Int32.toInt_inj.symm)
  · exact decide_eq_true_iff.trans Int32.lt_iff_toInt_lt
  · exact decide_eq_true_iff.trans Int32.le_iff_toInt_le
  · exact decide_eq_true_iff.trans Int32.lt_iff_toInt_lt
  · exact decide_eq_true_iff.trans Int32.le_iff_toInt_le
theorem jrf_ok {G : jGt} {r : jP} {g : jS} {p : xH} {c : ClassFile.Cond} {a b : jV} {x y : Value} (h : jSt G r g p) (hx : jR r a x) (hy : jR r b y) (hz : jcd c (jz x) (jz y)) : ∃ g' ∈ jrf g c a b, ∃ r', jLe r r' ∧ jSt G r' g' p := by
  cases c with
  | eq => obtain ⟨g', e1, e2⟩ := jeq_ok h hx hy hz; exact ⟨g', jmem e1, r, jLe.refl r, e2⟩
  | ne => exact jne_ok h hx hy hz
  | lt => obtain ⟨g', r', e1, e2, e3⟩ := jlt_ok h hx hy hz; exact ⟨g', jmem e1, r', e2, e3⟩
  | ge => obtain ⟨g', r', e1, e2, e3⟩ := jge_ok h hx hy hz; exact ⟨g', jmem e1, r', e2, e3⟩
  | gt => obtain ⟨g', r', e1, e2, e3⟩ := jlt_ok h hy hx hz; exact ⟨g', jmem e1, r', e2, e3⟩
  | le => obtain ⟨g', r', e1, e2, e3⟩ := jge_ok h hy hx hz; exact ⟨g', jmem e1, r', e2, e3⟩
def jSl (r : jP) : List jV → List Value → Prop
  | [], [] => True
  | a :: as, v :: vs => jR r a v ∧ jSl r as vs
  | _, _ => False
theorem jSl.cons {r : jP} {a : jV} {as : List jV} {st : List Value} (h : jSl r (a :: as) st) : ∃ v vs, st = v :: vs ∧ jR r a v ∧ jSl r as vs := by
  cases st with
  | nil => exact absurd h (by simp [jSl])
  | cons v vs => exact ⟨v, vs, rfl, h⟩
theorem jSl.nil {r : jP} {st : List Value} (h : jSl r [] st) : st = [] := by
  cases st with
  | nil => rfl
  | cons v vs => exact absurd h (by simp [jSl])
theorem jSl.mono {r r' : jP} (h : jLe r r') : ∀ {as : List jV} {vs : List Value}, jSl r as vs → jSl r' as vs
  | [], [], _ => trivial
  | [], _ :: _, e => absurd e (by simp [jSl])
  | _ :: _, [], e => absurd e (by simp [jSl])
  | _ :: _, _ :: _, e => ⟨e.1.mono h, jSl.mono h e.2⟩
theorem jb2_ok {G : jGt} {r : jP} {g : jS} {p : xH} {c : ClassFile.Cond} {a b : jV} {x y : Value} {t f : Nat} {st : List jV} {B : Bool} (h : jSt G r g p) (hx : jR r a x) (hy : jR r b y) (hB : B = true ↔ jcd c (jz x) (jz y)) :
    ∃ u ∈ jb2 g c a b t f st, ∃ r', (bif B then t else f) = u.1 ∧ u.2.1 = st ∧ jLe r r' ∧ jSt G r' u.2.2 p := by
  cases B with
  | true =>
    obtain ⟨g', m, r', e1, e2⟩ := jrf_ok h hx hy (hB.mp rfl)
    exact ⟨(t, st, g'), List.mem_append.mpr (Or.inl (List.mem_map.mpr ⟨g', m, rfl⟩)), r', rfl, rfl, e1, e2⟩
  | false =>
    obtain ⟨g', m, r', e1, e2⟩ := jrf_ok h hx hy (jcd_ng (fun z => by have := hB.mpr z; cases this))
    exact ⟨(f, st, g'), List.mem_append.mpr (Or.inr (List.mem_map.mpr ⟨g', m, rfl⟩)), r', rfl, rfl, e1, e2⟩
theorem jsk_ok {G : jGt} {r : jP} {g : jS} {p : xH} {a : jV} {x : Value} {pc t : Nat} {st : List jV} (h : jSt G r g p) (hx : jR r a x) : ∀ {L : List (Int × Int)} {v o : Int}, (v, o) ∈ L → L.all (fun q => (xtg pc q.2).isSome) = true → jz x = v → xtg pc o = some t → ∃ g', (t, st, g') ∈ jsk g a pc st L ∧ jSt G r g' p
  | [], _, _, m, _, _, _ => absurd m List.not_mem_nil
  | q :: l, v, o, m, ha, hv, ho => by
    rw [List.all_cons, Bool.and_eq_true] at ha
    rcases List.mem_cons.mp m with rfl | m
    · obtain ⟨g2, e1, e2⟩ := jcut_ok 4 (lo := v) (hi := v) h hx (by omega) (by omega)
      refine ⟨g2, ?_, e2⟩
      unfold jsk
      dsimp only
      rw [e1, ho]
      exact List.mem_cons_self
    · obtain ⟨g2, e1, e2⟩ := jsk_ok (t := t) (st := st) h hx m ha.2 hv ho
      refine ⟨g2, ?_, e2⟩
      unfold jsk
      split
      · exact List.mem_cons_of_mem _ e1
      · exact e1
theorem jtz_ok : ∀ {l : List Int} {lo : Int} {k : Nat} {o : Int}, l[k]? = some o → (lo + k, o) ∈ jtz lo l
  | [], lo, k, o, h => by simp at h
  | o' :: l, lo, 0, o, h => by
    simp only [List.getElem?_cons_zero, Option.some.injEq] at h
    subst h
    exact List.mem_cons.mpr (Or.inl (by simp))
  | o' :: l, lo, k + 1, o, h => by
    simp only [List.getElem?_cons_succ] at h
    have := jtz_ok (lo := lo + 1) h
    refine List.mem_cons.mpr (Or.inr ?_)
    rw [show lo + ((k + 1 : Nat) : Int) = lo + 1 + (k : Int) by push_cast; omega]
    exact this
theorem joff_ok : ∀ (l : List (Int × Int)) (d k : Int), Op.lookupswitch.offset l d k = d ∨ (k, Op.lookupswitch.offset l d k) ∈ l
  | [], d, k => Or.inl rfl
  | (a, o) :: l, d, k => by
    rw [Op.lookupswitch.offset_cons]
    split
    next h => subst h; exact Or.inr List.mem_cons_self
    next h => exact (joff_ok l d k).imp_right (List.mem_cons_of_mem _)
theorem jxt {pc : Nat} {L : List (Int × Int)} {v o : Int} (h : L.all (fun q => (xtg pc q.2).isSome) = true) (m : (v, o) ∈ L) : ∃ t, xtg pc o = some t := Option.isSome_iff_exists.mp (List.all_eq_true.mp h _ m)
set_option maxHeartbeats 1000000 in
theorem jbr_ok {G : jGt} {r : jP} {g : jS} {p : xH} {i : Instr} {pc : Nat} {ast : List jV} {st : List Value} {l : List (Nat × List jV × jS)} (h : jSt G r g p) (e : jbr i pc ast g = some l) (hs : jSl r ast st) :
    (∀ own nL ls, xs1 own nL i ls st = none) ∧ ∃ u ∈ l, ∃ st' r', xbr i pc st = some (u.1, st') ∧ jLe r r' ∧ jSt G r' u.2.2 p ∧ jSl r' u.2.1 st' := by
  unfold jbr at e
  split at e
  next =>
    obtain ⟨t, ht, hh⟩ := xmap e
    cases hh
    exact ⟨fun _ _ _ => rfl, _, List.mem_singleton.mpr rfl, st, r, by simp only [xbr, ht, Option.map_some], jLe.refl r, h, hs⟩
  next c o a ast0 =>
    split at e
    next lo hi t hb ht =>
      obtain ⟨w, vs, rfl, g1, g2⟩ := hs.cons
      obtain ⟨x, rfl, -⟩ := (jbd_ok h.2.1 hb g1).int
      refine ⟨fun _ _ _ => rfl, ?_⟩
      split at e
      next q hq =>
        cases e
        obtain ⟨q1, q2⟩ := q
        unfold jlc at hq
        split at hq
        next s =>
          split at hq
          next row hrow =>
            split at hq
            next a1 a2 hd =>
              cases hq
              obtain ⟨w, w1, w2, w3⟩ := jrow_of h.2.1 hrow
              rw [hd] at w3
              obtain ⟨x1, y1, w4, w5, -, w7⟩ := w3
              obtain ⟨w7, k1, k2⟩ := w7 (fun z => by cases z)
              obtain ⟨u1, rfl, -⟩ := (show jI 1 (jz x1) (jz x1) x1 from ⟨k1, Int.le_refl _, Int.le_refl _⟩).long
              obtain ⟨u2, rfl, -⟩ := (show jI 1 (jz y1) (jz y1) y1 from ⟨k2, Int.le_refl _, Int.le_refl _⟩).long
              have w7 : some (Value.int (lg_cmp u1 u2)) = some w := w7
              cases w7
              cases g1.one (show jR r (.inr s) _ from w1)
              have hB : xcmp c (lg_cmp u1 u2) 0 = true ↔ jcd c (jz (.long u1)) (jz (.long u2)) := by
                rw [xcmp_j]
                show jcd c (lg_cmp u1 u2).toInt 0 ↔ jcd c u1.toInt u2.toInt
                obtain ⟨j1, j2, j3⟩ := jlg u1 u2
                have hm1 : (-1 : Int32).toInt = -1 := by decide
                have hm2 : (1 : Int32).toInt = 1 := by decide
                have hm3 : (0 : Int32).toInt = 0 := by decide
                rcases Int.lt_trichotomy u1.toInt u2.toInt with z | z | z
                · rw [j1 z, hm1]; cases c <;> simp only [jcd] <;> constructor <;> intro _ <;> omega
                · rw [j3 z, hm3, z]; cases c <;> simp [jcd]
                · rw [j2 z, hm2]; cases c <;> simp only [jcd] <;> constructor <;> intro _ <;> omega
              obtain ⟨u, m, r', b1, b2, b3, b4⟩ := jb2_ok (t := t) (f := pc + 3) (st := ast0) h w4 w5 hB
              exact ⟨u, m, vs, r', by simp only [xbr, ht, Option.map_some, b1], b3, b4, by rw [b2]; exact g2.mono b3⟩
            next => cases hq
          next => cases hq
        next => cases hq
      next =>
        cases e
        obtain ⟨u, m, r', b1, b2, b3, b4⟩ := jb2_ok (c := c) (B := xcmp c x 0) (t := t) (f := pc + 3) (st := ast0) h g1 (show jR r (.inl (.int 0)) (.int 0) from rfl) (by rw [xcmp_j]; rfl)
        exact ⟨u, m, vs, r', by simp only [xbr, ht, Option.map_some, b1], b3, b4, by rw [b2]; exact g2.mono b3⟩
    next => cases e
  next c o b a ast0 =>
    split at e
    next lo hi lo2 hi2 t ha hb ht =>
      cases e
      obtain ⟨w1, vs1, rfl, g1, g2⟩ := hs.cons
      obtain ⟨w2, vs2, rfl, g3, g4⟩ := g2.cons
      obtain ⟨y, rfl, -⟩ := (jbd_ok h.2.1 hb g1).int
      obtain ⟨x, rfl, -⟩ := (jbd_ok h.2.1 ha g3).int
      obtain ⟨u, m, r', b1, b2, b3, b4⟩ := jb2_ok (c := c) (B := xcmp c x y) (t := t) (f := pc + 3) (st := ast0) h g3 g1 xcmp_j
      exact ⟨fun _ _ _ => rfl, u, m, vs2, r', by simp only [xbr, ht, Option.map_some, b1], b3, b4, by rw [b2]; exact g4.mono b3⟩
    next => cases e
  next d lo hi offs a ast0 =>
    split at e
    next l1 h1 t hb ht =>
      obtain ⟨hz, e⟩ := xbif e
      cases e
      simp only [Bool.and_eq_true, decide_eq_true_eq] at hz
      obtain ⟨w, vs, rfl, g1, g2⟩ := hs.cons
      obtain ⟨x, rfl, -⟩ := (jbd_ok h.2.1 hb g1).int
      refine ⟨fun _ _ _ => rfl, ?_⟩
      by_cases hlo : x.toInt < lo
      · obtain ⟨g3, e1, e2⟩ := jcut_ok 4 (lo := -9223372036854775808) (hi := lo - 1) h g1 (jzb _).1 (by show x.toInt ≤ _; omega)
        exact ⟨(t, ast0, g3), List.mem_append.mpr (Or.inl (List.mem_map.mpr ⟨g3, jmem e1, rfl⟩)), vs, r, by simp only [xbr]; rw [if_pos (Or.inl hlo), ht]; rfl, jLe.refl r, e2, g2⟩
      · by_cases hhi : hi < x.toInt
        · obtain ⟨g3, e1, e2⟩ := jcut_ok 4 (lo := hi + 1) (hi := 9223372036854775807) h g1 (by show _ ≤ x.toInt; omega) (jzb _).2
          exact ⟨(t, ast0, g3), List.mem_append.mpr (Or.inr (List.mem_append.mpr (Or.inl (List.mem_map.mpr ⟨g3, jmem e1, rfl⟩)))), vs, r, by simp only [xbr]; rw [if_pos (Or.inr hhi), ht]; rfl, jLe.refl r, e2, g2⟩
        · have hk : (x.toInt - lo).toNat < offs.toList.length := by rw [hz.2]; omega
          have ho := List.getElem?_eq_getElem hk
          have hm := jtz_ok (lo := lo) ho
          rw [show lo + ((x.toInt - lo).toNat : Int) = x.toInt by omega] at hm
          obtain ⟨t2, ht2⟩ := jxt hz.1 hm
          obtain ⟨g3, e1, e2⟩ := jsk_ok (st := ast0) h g1 hm hz.1 rfl ht2
          refine ⟨(t2, ast0, g3), List.mem_append.mpr (Or.inr (List.mem_append.mpr (Or.inr e1))), vs, r, ?_, jLe.refl r, e2, g2⟩
          simp only [xbr]
          rw [if_neg (by omega), ← Array.getElem?_toList, ho]
          dsimp only
          rw [ht2]
          rfl
    next => cases e
  next d ps a ast0 =>
    split at e
    next l1 h1 t hb ht =>
      obtain ⟨hz, e⟩ := xbif e
      cases e
      simp only [Bool.and_eq_true] at hz
      obtain ⟨w, vs, rfl, g1, g2⟩ := hs.cons
      obtain ⟨x, rfl, -⟩ := (jbd_ok h.2.1 hb g1).int
      refine ⟨fun _ _ _ => rfl, ?_⟩
      obtain ⟨t3, ht3⟩ : ∃ t3, xtg pc (Op.lookupswitch.offset ps.toList d x.toInt) = some t3 := by
        rcases joff_ok ps.toList d x.toInt with z | z
        · rw [z]; exact ⟨t, ht⟩
        · exact jxt hz.2 z
      have hbr : xbr (.lookupswitch d ps) pc (.int x :: vs) = some (t3, vs) := by simp only [xbr]; rw [hz.1, ht3]; rfl
      split
      next x' hx' =>
        have := jnm_ok h.2.1 g1
        rw [hx'] at this
        cases this
        rw [ht3]
        exact ⟨(t3, ast0, g), List.mem_singleton.mpr rfl, vs, r, hbr, jLe.refl r, h, g2⟩
      next =>
        rcases joff_ok ps.toList d x.toInt with z | z
        · rw [z, ht] at ht3
          cases ht3
          exact ⟨(t, ast0, g), List.mem_cons_self, vs, r, hbr, jLe.refl r, h, g2⟩
        · obtain ⟨g3, e1, e2⟩ := jsk_ok (st := ast0) h g1 z hz.2 rfl ht3
          exact ⟨(t3, ast0, g3), List.mem_cons_of_mem _ e1, vs, r, hbr, jLe.refl r, e2, g2⟩
    next => cases e
  next => cases e
end
