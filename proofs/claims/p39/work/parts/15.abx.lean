/-! intervals hold what the pure machine does: cells, ends, calls, runs -/
theorem aGl_get : ∀ {as : List aV} {vs : List Value}, aGl as vs → ∀ {k : Nat} {a : aV}, as[k]? = some a → ∃ v, vs[k]? = some v ∧ aG a v
  | [], [], _, k, a, e => by simp at e
  | [], _ :: _, h, _, _, _ => absurd h (by simp [aGl])
  | _ :: _, [], h, _, _, _ => absurd h (by simp [aGl])
  | a0 :: as, v0 :: vs, h, k, a, e => by
    cases k with
    | zero => simp only [List.getElem?_cons_zero, Option.some.injEq] at e; subst e; exact ⟨v0, rfl, h.1⟩
    | succ k => simp only [List.getElem?_cons_succ] at e; exact aGl_get h.2 e
theorem aGl_len : ∀ {as : List aV} {vs : List Value}, aGl as vs → as.length = vs.length
  | [], [], _ => rfl
  | [], _ :: _, h => absurd h (by simp [aGl])
  | _ :: _, [], h => absurd h (by simp [aGl])
  | a0 :: as, v0 :: vs, h => by simp [aGl_len h.2]
theorem aGl_set : ∀ {as : List aV} {vs : List Value}, aGl as vs → ∀ (k : Nat) {a : aV} {v : Value}, aG a v → aGl (as.set k a) (vs.set k v)
  | [], [], h, _, _, _, _ => h
  | [], _ :: _, h, _, _, _, _ => absurd h (by simp [aGl])
  | _ :: _, [], h, _, _, _, _ => absurd h (by simp [aGl])
  | a0 :: as, v0 :: vs, h, k, a, v, g => by
    cases k with
    | zero => exact ⟨g, h.2⟩
    | succ k => exact ⟨h.1, aGl_set h.2 k g⟩
theorem aGH_get : ∀ {as : aH} {vs : xH}, aGH as vs → ∀ {k t : Nat} {a : List aV}, as[k]? = some (t, a) → ∃ v, vs[k]? = some (t, v) ∧ aGl a v
  | [], [], _, k, t, a, e => by simp at e
  | [], _ :: _, h, _, _, _, _ => absurd h (by simp [aGH])
  | _ :: _, [], h, _, _, _, _ => absurd h (by simp [aGH])
  | a0 :: as, v0 :: vs, h, k, t, a, e => by
    cases k with
    | zero =>
      simp only [List.getElem?_cons_zero, Option.some.injEq] at e
      subst e
      exact ⟨v0.2, by rw [List.getElem?_cons_zero, show v0 = (t, v0.2) from Prod.ext h.1.1.symm rfl], h.1.2⟩
    | succ k => simp only [List.getElem?_cons_succ] at e; exact aGH_get h.2 e
theorem aGH_set : ∀ {as : aH} {vs : xH}, aGH as vs → ∀ (k t : Nat) {a : List aV} {v : List Value}, aGl a v → aGH (as.set k (t, a)) (vs.set k (t, v))
  | [], [], h, _, _, _, _, _ => h
  | [], _ :: _, h, _, _, _, _, _ => absurd h (by simp [aGH])
  | _ :: _, [], h, _, _, _, _, _ => absurd h (by simp [aGH])
  | a0 :: as, v0 :: vs, h, k, t, a, v, g => by
    cases k with
    | zero => exact ⟨⟨rfl, g⟩, h.2⟩
    | succ k => exact ⟨h.1, aGH_set h.2 k t g⟩
def aGr (aro : List (List aV)) (ro : List (List Int32)) : Prop := ∀ (k : Nat) (as : List aV), aro[k]? = some as → ∃ xs, ro[k]? = some xs ∧ aGl as (xs.map .int)
theorem abr_ok {i : Instr} {pc pc' : Nat} {ast ast' : List aV} {st : List Value} (h : abr i pc ast = some (pc', ast')) (hs : aGl ast st) :
    (∀ own nL ls, xs1 own nL i ls st = none) ∧ ∃ st', xbr i pc st = some (pc', st') ∧ aGl ast' st' := by
  unfold abr at h
  split at h
  next => obtain ⟨t, ht, hh⟩ := xmap h; cases hh; exact ⟨fun _ _ _ => rfl, st, by simp only [xbr, ht, Option.map_some], hs⟩
  next =>
    split at h
    next p hp =>
      split at h
      next b t hb ht =>
        cases h
        obtain ⟨w, vs, rfl, g1, g2⟩ := aGl_cons hs
        obtain ⟨x, rfl, x1, x2⟩ := ai_ok (lo := p.1) (hi := p.2) hp g1
        have hc := acmp_ok (y := 0) hb x1 x2 (by simp) (by simp)
        exact ⟨fun _ _ _ => rfl, vs, by simp only [xbr, ht, Option.map_some, hc], g2⟩
      next => cases h
    next => cases h
  next =>
    split at h
    next p q hp hq =>
      split at h
      next b t hb ht =>
        cases h
        obtain ⟨w1, vs1, rfl, g1, g2⟩ := aGl_cons hs
        obtain ⟨w2, vs2, rfl, g3, g4⟩ := aGl_cons g2
        obtain ⟨y, rfl, y1, y2⟩ := ai_ok (lo := q.1) (hi := q.2) hq g1
        obtain ⟨x, rfl, x1, x2⟩ := ai_ok (lo := p.1) (hi := p.2) hp g3
        have hc := acmp_ok hb x1 x2 y1 y2
        exact ⟨fun _ _ _ => rfl, vs2, by simp only [xbr, ht, Option.map_some, hc], g4⟩
      next => cases h
    next => cases h
  next d lo hi offs a st0 =>
    obtain ⟨w1, vs1, rfl, g1, g2⟩ := aGl_cons hs
    split at h
    next =>
      split at h
      next p hp =>
        obtain ⟨hz, h⟩ := xbif h
        obtain ⟨t, ht, hh⟩ := xmap h; cases hh
        simp only [Bool.or_eq_true, decide_eq_true_eq] at hz
        obtain ⟨x, rfl, x1, x2⟩ := ai_ok (lo := p.1) (hi := p.2) hp g1
        refine ⟨fun _ _ _ => rfl, vs1, ?_, g2⟩
        simp only [xbr]
        rw [if_pos (by omega), ht]
        rfl
      next => cases h
    next x hx =>
      cases aex_ok hx g1
      refine ⟨fun _ _ _ => rfl, vs1, ?_⟩
      simp only [xbr]
      split at h
      next hz =>
        obtain ⟨t, ht, hh⟩ := xmap h; cases hh
        rw [if_pos hz, ht]
        exact ⟨rfl, g2⟩
      next hz =>
        rw [if_neg hz]
        split at h
        next o ho =>
          obtain ⟨t, ht, hh⟩ := xmap h; cases hh
          rw [ho]
          dsimp only
          rw [ht]
          exact ⟨rfl, g2⟩
        next => cases h
  next => cases h
theorem a01_ok {a : aV} {w : Value} (h : a01 a = true) (g : aG a w) : ∃ x : Int32, w = .int x ∧ (x == 0 || x == 1) = true := by
  unfold a01 at h
  split at h
  next x hx => exact ⟨x, aex_ok hx g, h⟩
  next => cases h
theorem aSome {a : aV} {w : Value} (h : (ai a).isSome = true) (g : aG a w) : ∃ x : Int32, w = .int x := by
  obtain ⟨p, hp⟩ := Option.isSome_iff_exists.mp h
  obtain ⟨x, e, -⟩ := ai_ok (lo := p.1) (hi := p.2) hp g
  exact ⟨x, e⟩
theorem aSomeL {a : aV} {w : Value} (h : (aj a).isSome = true) (g : aG a w) : ∃ x : Int64, w = .long x := by
  obtain ⟨p, hp⟩ := Option.isSome_iff_exists.mp h
  obtain ⟨x, e, -⟩ := aj_ok (lo := p.1) (hi := p.2) hp g
  exact ⟨x, e⟩
theorem afit_ok {c : Nat} {a : aV} {w : Value} (h : afit c a = true) (g : aG a w) : xfit c w = true := by
  unfold afit at h
  unfold xfit
  revert h
  generalize c % 10 = j
  intro h
  split at h
  next => obtain ⟨x, rfl⟩ := aSome h g; rfl
  next =>
    split at h
    next x hx => cases aex_ok hx g; exact h
    next => cases h
  next => cases h
set_option maxHeartbeats 4000000 in
theorem aho_ok {aro : List (List aV)} {ro : List (List Int32)} (hro : aGr aro ro) {own : Nat} {i : Instr} {ast ast' : List aV} {ah ah' : aH} {st : List Value} {h : xH} (e : aho aro own i ast ah = some (ast', ah')) (hs : aGl ast st) (hh : aGH ah h) :
    (∀ own nL ls, xs1 own nL i ls st = none) ∧ (∀ pc, xbr i pc st = none) ∧ ∃ st' h', (∀ kind, xho ro own kind i st h = some (st', h')) ∧ aGl ast' st' ∧ aGH ah' h' := by
  unfold aho at e
  split at e
  next idx r st0 =>
    obtain ⟨w1, vs1, rfl, g1, g2⟩ := aGl_cons hs
    cases g1
    split at e
    next ci k0 pl t fs hf hc =>
      obtain ⟨ht, e⟩ := xbif e
      obtain ⟨v, hv, e⟩ := xmap e
      cases e
      obtain ⟨vs, c1, c2⟩ := aGH_get hh hc
      obtain ⟨w, d1, d2⟩ := aGl_get c2 hv
      exact ⟨fun _ _ _ => rfl, fun _ => rfl, w :: vs1, h, fun _ => by simp only [xho, hf, c1, ht, cond_true, d1, Option.map_some], ⟨d2, g2⟩, hh⟩
    next => cases e
  next idx v r st0 =>
    obtain ⟨w1, vs1, rfl, g1, g2⟩ := aGl_cons hs
    obtain ⟨w2, vs2, rfl, g3, g4⟩ := aGl_cons g2
    cases g3
    split at e
    next ci k0 pl t fs hf hc =>
      obtain ⟨ht, e⟩ := xbif e
      split at e
      next cs hcs =>
        split at e
        next c0 hc0 =>
          obtain ⟨hfit, e⟩ := xbif e
          cases e
          simp only [Bool.and_eq_true] at hfit
          obtain ⟨vs, c1, c2⟩ := aGH_get hh hc
          rw [aGl_len c2] at ht
          have hx := afit_ok hfit.1 g1
          have hcond : ∀ kind, (xfit c0 w1 && (Nat.blt c0 10 || (Nat.beq kind 2 && Nat.beq ci own))) = true := fun kind => by rw [hx, hfit.2]; rfl
          refine ⟨fun _ _ _ => rfl, fun _ => rfl, vs2, h.set r (t, vs.set k0 w1), fun kind => ?_, g4, aGH_set hh r t (aGl_set c2 k0 g1)⟩
          simp only [xho, hf, c1, ht, cond_true, hcs, hc0]
          rw [hcond kind]
          rfl
        next => cases e
      next => cases e
    next => cases e
  next j r st0 =>
    obtain ⟨w1, vs1, rfl, g1, g2⟩ := aGl_cons hs
    obtain ⟨w2, vs2, rfl, g3, g4⟩ := aGl_cons g2
    cases g3
    split at e
    next t vsA jx hc hj =>
      cases aex_ok hj g1
      obtain ⟨ht, e⟩ := xbif e
      split at e
      next => cases e
      next hneg =>
        split at e
        next a ha =>
          obtain ⟨p, hp, e⟩ := xmap e
          cases e
          obtain ⟨vs, c1, c2⟩ := aGH_get hh hc
          obtain ⟨w, d1, d2⟩ := aGl_get c2 ha
          obtain ⟨x, rfl, -⟩ := ai_ok (lo := p.1) (hi := p.2) hp d2
          exact ⟨fun _ _ _ => rfl, fun _ => rfl, .int x :: vs2, h, fun _ => by simp only [xho, c1, ht, cond_true, d1]; rw [if_neg hneg], ⟨d2, g4⟩, hh⟩
        next => cases e
    next => cases e
  next j q st0 =>
    obtain ⟨w1, vs1, rfl, g1, g2⟩ := aGl_cons hs
    obtain ⟨w2, vs2, rfl, g3, g4⟩ := aGl_cons g2
    cases g3
    split at e
    next vsA jx hc hj =>
      cases aex_ok hj g1
      split at e
      next => cases e
      next hneg =>
        split at e
        next a ha =>
          obtain ⟨p, hp, e⟩ := xmap e
          cases e
          obtain ⟨xs, c1, c2⟩ := hro _ _ hc
          obtain ⟨w, d1, d2⟩ := aGl_get c2 ha
          rw [List.getElem?_map] at d1
          obtain ⟨x, d3, rfl⟩ := xmap d1
          exact ⟨fun _ _ _ => rfl, fun _ => rfl, .int x :: vs2, h, fun _ => by simp only [xho, c1, d3, Option.map_some]; rw [if_neg hneg], ⟨d2, g4⟩, hh⟩
        next => cases e
    next => cases e
  next j r st0 =>
    obtain ⟨w1, vs1, rfl, g1, g2⟩ := aGl_cons hs
    obtain ⟨w2, vs2, rfl, g3, g4⟩ := aGl_cons g2
    cases g3
    split at e
    next t vsA jx hc hj =>
      cases aex_ok hj g1
      obtain ⟨ht, e⟩ := xbif e
      split at e
      next => cases e
      next hneg =>
        split at e
        next a ha =>
          obtain ⟨p, hp, e⟩ := xmap e
          cases e
          obtain ⟨vs, c1, c2⟩ := aGH_get hh hc
          obtain ⟨w, d1, d2⟩ := aGl_get c2 ha
          obtain ⟨x, rfl, -⟩ := ai_ok (lo := p.1) (hi := p.2) hp d2
          exact ⟨fun _ _ _ => rfl, fun _ => rfl, .int x :: vs2, h, fun _ => by simp only [xho, c1, ht, cond_true, d1]; rw [if_neg hneg], ⟨d2, g4⟩, hh⟩
        next => cases e
    next => cases e
  next j r st0 =>
    obtain ⟨w1, vs1, rfl, g1, g2⟩ := aGl_cons hs
    obtain ⟨w2, vs2, rfl, g3, g4⟩ := aGl_cons g2
    cases g3
    split at e
    next t vsA jx hc hj =>
      cases aex_ok hj g1
      obtain ⟨ht, e⟩ := xbif e
      split at e
      next => cases e
      next hneg =>
        split at e
        next a ha =>
          obtain ⟨p, hp, e⟩ := xmap e
          cases e
          obtain ⟨vs, c1, c2⟩ := aGH_get hh hc
          obtain ⟨w, d1, d2⟩ := aGl_get c2 ha
          obtain ⟨x, rfl, -⟩ := aj_ok (lo := p.1) (hi := p.2) hp d2
          exact ⟨fun _ _ _ => rfl, fun _ => rfl, .long x :: vs2, h, fun _ => by simp only [xho, c1, ht, cond_true, d1]; rw [if_neg hneg], ⟨d2, g4⟩, hh⟩
        next => cases e
    next => cases e
  next a j r st0 =>
    obtain ⟨w0, vs0, rfl, g0, g9⟩ := aGl_cons hs
    obtain ⟨w1, vs1, rfl, g1, g2⟩ := aGl_cons g9
    obtain ⟨w2, vs2, rfl, g3, g4⟩ := aGl_cons g2
    cases g3
    split at e
    next t vsA jx hc hj =>
      cases aex_ok hj g1
      obtain ⟨ht, e⟩ := xbif e
      simp only [Bool.and_eq_true] at ht
      split at e
      next => cases e
      next hneg =>
        cases e
        obtain ⟨vs, c1, c2⟩ := aGH_get hh hc
        obtain ⟨x, rfl⟩ := aSome ht.2 g0
        rw [aGl_len c2] at ht
        exact ⟨fun _ _ _ => rfl, fun _ => rfl, vs2, h.set r (t, vs.set jx.toNatClampNeg (.int x)), fun _ => by simp only [xho, c1, ht.1.1, ht.1.2, Bool.and_true, cond_true]; rw [if_neg hneg], g4, aGH_set hh r t (aGl_set c2 _ g0)⟩
    next => cases e
  next a j r st0 =>
    obtain ⟨w0, vs0, rfl, g0, g9⟩ := aGl_cons hs
    obtain ⟨w1, vs1, rfl, g1, g2⟩ := aGl_cons g9
    obtain ⟨w2, vs2, rfl, g3, g4⟩ := aGl_cons g2
    cases g3
    split at e
    next t vsA jx hc hj =>
      cases aex_ok hj g1
      obtain ⟨ht, e⟩ := xbif e
      simp only [Bool.and_eq_true] at ht
      split at e
      next => cases e
      next hneg =>
        cases e
        obtain ⟨vs, c1, c2⟩ := aGH_get hh hc
        obtain ⟨x, rfl, h01⟩ := a01_ok ht.2 g0
        rw [aGl_len c2] at ht
        exact ⟨fun _ _ _ => rfl, fun _ => rfl, vs2, h.set r (t, vs.set jx.toNatClampNeg (.int x)), fun _ => by simp only [xho, c1, ht.1.1, ht.1.2, h01, Bool.and_true, cond_true]; rw [if_neg hneg], g4, aGH_set hh r t (aGl_set c2 _ g0)⟩
    next => cases e
  next a j r st0 =>
    obtain ⟨w0, vs0, rfl, g0, g9⟩ := aGl_cons hs
    obtain ⟨w1, vs1, rfl, g1, g2⟩ := aGl_cons g9
    obtain ⟨w2, vs2, rfl, g3, g4⟩ := aGl_cons g2
    cases g3
    split at e
    next t vsA jx hc hj =>
      cases aex_ok hj g1
      obtain ⟨ht, e⟩ := xbif e
      simp only [Bool.and_eq_true] at ht
      split at e
      next => cases e
      next hneg =>
        cases e
        obtain ⟨vs, c1, c2⟩ := aGH_get hh hc
        obtain ⟨x, rfl⟩ := aSomeL ht.2 g0
        rw [aGl_len c2] at ht
        exact ⟨fun _ _ _ => rfl, fun _ => rfl, vs2, h.set r (t, vs.set jx.toNatClampNeg (.long x)), fun _ => by simp only [xho, c1, ht.1.1, ht.1.2, Bool.and_true, cond_true]; rw [if_neg hneg], g4, aGH_set hh r t (aGl_set c2 _ g0)⟩
    next => cases e
  next q st0 =>
    obtain ⟨w1, vs1, rfl, g1, g2⟩ := aGl_cons hs
    cases g1
    obtain ⟨hq0, e⟩ := xbif e
    obtain ⟨xsA, hxs, e⟩ := xmap e
    cases e
    obtain ⟨xs, c1, c2⟩ := hro _ _ hxs
    have hlen : xsA.length = xs.length := by have := aGl_len c2; rwa [List.length_map] at this
    exact ⟨fun _ _ _ => rfl, fun _ => rfl, .int (Int32.ofNat xs.length) :: vs1, h, fun _ => by simp only [xho, c1, hq0, cond_true, Option.map_some], ⟨by rw [hlen]; rfl, g2⟩, hh⟩
  next idx st0 =>
    obtain ⟨kp, hkp, e⟩ := xmap e
    cases e
    exact ⟨fun _ _ _ => rfl, fun _ => rfl, .retAddr kp.1 :: st, h, fun _ => by simp only [xho, hkp, Option.map_some], ⟨rfl, hs⟩, hh⟩
  next => cases e
