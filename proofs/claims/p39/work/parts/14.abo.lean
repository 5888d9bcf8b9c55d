/-! intervals hold what the pure machine does: locals and stack, jumps -/
theorem adv_ok {a v : aV} {y : Int32} {w : Value} (h : adv a y = some v) (g : aG a w) : ∃ x : Int32, w = .int x ∧ ¬ y = 0 ∧ aG v (.int (x / y)) := by
  unfold adv at h
  obtain ⟨hy, h⟩ := xbif h
  have hy := of_decide_eq_true hy
  have hy0 : ¬ y = 0 := fun e => by rw [e] at hy; simp at hy
  split at h
  next x hx => cases h; exact ⟨x, aex_ok hx g, hy0, rfl⟩
  next =>
    obtain ⟨⟨lo, hi⟩, h1, h2⟩ := xmap h
    subst h2
    obtain ⟨x, rfl, b1, b2⟩ := ai_ok h1 g
    refine ⟨x, rfl, hy0, x / y, rfl, ?_, ?_⟩
    · rw [Int32.toInt_div_of_ne_right x y (fun e => by rw [e] at hy; revert hy; decide)]
      exact Int.tdiv_le_tdiv hy b1
    · rw [Int32.toInt_div_of_ne_right x y (fun e => by rw [e] at hy; revert hy; decide)]
      exact Int.tdiv_le_tdiv hy b2
theorem arm_ok {a v : aV} {y : Int32} {w : Value} (h : arm a y = some v) (g : aG a w) : ∃ x : Int32, w = .int x ∧ ¬ y = 0 ∧ aG v (.int (x - x / y * y)) := by
  unfold arm at h
  obtain ⟨hy, h⟩ := xbif h
  have hy := of_decide_eq_true hy
  have hy0 : ¬ y = 0 := fun e => by rw [e] at hy; simp at hy
  split at h
  next x hx => cases h; exact ⟨x, aex_ok hx g, hy0, rfl⟩
  next =>
    obtain ⟨⟨lo, hi⟩, h1, h2⟩ := xmap h
    subst h2
    obtain ⟨x, rfl, b1, b2⟩ := ai_ok h1 g
    refine ⟨x, rfl, hy0, ?_⟩
    cases hz : decide (0 ≤ lo ∧ lo.tdiv y.toInt = hi.tdiv y.toInt) with
    | false => exact aT_ok _
    | true =>
      have hz := of_decide_eq_true hz
      have hxd : (x / y).toInt = x.toInt.tdiv y.toInt := Int32.toInt_div_of_ne_right x y (fun e => by rw [e] at hy; revert hy; decide)
      have t1 : lo.tdiv y.toInt ≤ x.toInt.tdiv y.toInt := Int.tdiv_le_tdiv hy b1
      have t2 : x.toInt.tdiv y.toInt ≤ hi.tdiv y.toInt := Int.tdiv_le_tdiv hy b2
      have t3 : x.toInt.tdiv y.toInt = lo.tdiv y.toInt := by omega
      have hx0 : 0 ≤ x.toInt := by omega
      have hq0 : 0 ≤ x.toInt.tdiv y.toInt := Int.tdiv_nonneg hx0 (Int.le_of_lt hy)
      have hm : x.toInt.tdiv y.toInt * y.toInt ≤ x.toInt := by
        have := Int.tmod_nonneg y.toInt hx0
        have e := Int.tmod_add_mul_tdiv x.toInt y.toInt
        rw [Int.mul_comm] at e
        omega
      have hm0 : 0 ≤ x.toInt.tdiv y.toInt * y.toInt := Int.mul_nonneg hq0 (Int.le_of_lt hy)
      have hxl := Int32.toInt_lt x
      have e1 : (x / y * y).toInt = x.toInt.tdiv y.toInt * y.toInt := by
        rw [Int32.toInt_mul, hxd]
        exact Int.bmod_eq_of_le (by omega) (by omega)
      have e2 : (x - x / y * y).toInt = x.toInt - x.toInt.tdiv y.toInt * y.toInt := by
        rw [Int32.toInt_sub, e1]
        exact Int.bmod_eq_of_le (by omega) (by omega)
      refine ⟨x - x / y * y, rfl, (show lo - lo.tdiv y.toInt * y.toInt ≤ _ from ?_), (show _ ≤ hi - lo.tdiv y.toInt * y.toInt from ?_)⟩
      · rw [e2, t3]; omega
      · rw [e2, t3]; omega
theorem aun_ok {a v : aV} {f : Int32 → Int32} {w : Value} (h : aun a f = some v) (g : aG a w) : ∃ x : Int32, w = .int x ∧ aG v (.int (f x)) := by
  unfold aun at h
  split at h
  next x hx => cases h; exact ⟨x, aex_ok hx g, rfl⟩
  next =>
    obtain ⟨⟨lo, hi⟩, h1, h2⟩ := xmap h
    subst h2
    obtain ⟨x, rfl, b1, b2⟩ := ai_ok h1 g
    exact ⟨x, rfl, aT_ok _⟩
theorem a2l_ok {a v : aV} {w : Value} (h : a2l a = some v) (g : aG a w) : ∃ x : Int32, w = .int x ∧ aG v (.long x.toInt64) := by
  unfold a2l at h
  split at h
  next x => cases h; exact ⟨x, g, rfl⟩
  next lo hi =>
    cases h
    obtain ⟨x, rfl, b1, b2⟩ := g
    exact ⟨x, rfl, x.toInt64, rfl, by rw [Int32.toInt_toInt64]; exact b1, by rw [Int32.toInt_toInt64]; exact b2⟩
  next => cases h
theorem alc_ok {a b v : aV} {x y : Value} (h : alc a b = some v) (ga : aG a x) (gb : aG b y) : ∃ u w : Int64, x = .long u ∧ y = .long w ∧ aG v (.int (lg_cmp u w)) := by
  unfold alc at h
  split at h
  next p q hp hq =>
    obtain ⟨u, rfl, u1, u2⟩ := aj_ok (lo := p.1) (hi := p.2) hp ga
    obtain ⟨w, rfl, w1, w2⟩ := aj_ok (lo := q.1) (hi := q.2) hq gb
    refine ⟨u, w, rfl, rfl, ?_⟩
    have c1 : u.toInt < w.toInt → lg_cmp u w = -1 := fun z => by
      unfold lg_cmp
      rw [if_neg (fun z2 : u > w => by have := Int64.lt_iff_toInt_lt.mp z2; omega), if_neg (fun z2 : u = w => by subst z2; omega)]
    have c2 : w.toInt < u.toInt → lg_cmp u w = 1 := fun z => by
      unfold lg_cmp
      rw [if_pos (Int64.lt_iff_toInt_lt.mpr z)]
    have c3 : u.toInt = w.toInt → lg_cmp u w = 0 := fun z => by
      have e : u = w := Int64.toInt_inj.mp z
      subst e
      unfold lg_cmp
      rw [if_neg (fun z2 : u > u => by have := Int64.lt_iff_toInt_lt.mp z2; omega), if_pos rfl]
    cases h1 : decide (p.2 < q.1) with
    | true =>
      rw [h1] at h
      cases h
      have h1 := of_decide_eq_true h1
      rw [c1 (by omega)]; rfl
    | false =>
      rw [h1, cond_false] at h
      cases h2 : decide (q.2 < p.1) with
      | true =>
        rw [h2] at h
        cases h
        have h2 := of_decide_eq_true h2
        rw [c2 (by omega)]; rfl
      | false =>
        rw [h2, cond_false] at h
        cases h3 : decide (p.1 = p.2 ∧ q.1 = q.2 ∧ p.1 = q.1) with
        | true =>
          rw [h3] at h
          cases h
          have h3 := of_decide_eq_true h3
          rw [c3 (by omega)]; rfl
        | false =>
          rw [h3, cond_false] at h
          cases h4 : decide (q.2 ≤ p.1) with
          | true =>
            rw [h4] at h
            cases h
            have h4 := of_decide_eq_true h4
            rcases Int.lt_or_eq_of_le (show w.toInt ≤ u.toInt by omega) with z | z
            · rw [c2 z]; exact ⟨1, rfl, by decide, by decide⟩
            · rw [c3 z.symm]; exact ⟨0, rfl, by decide, by decide⟩
          | false =>
            rw [h4, cond_false] at h
            cases h5 : decide (p.2 ≤ q.1) with
            | true =>
              rw [h5] at h
              cases h
              have h5 := of_decide_eq_true h5
              rcases Int.lt_or_eq_of_le (show u.toInt ≤ w.toInt by omega) with z | z
              · rw [c1 z]; exact ⟨-1, rfl, by decide, by decide⟩
              · rw [c3 z]; exact ⟨0, rfl, by decide, by decide⟩
            | false =>
              rw [h5, cond_false] at h
              cases h
              rcases Int.lt_trichotomy u.toInt w.toInt with z | z | z
              · rw [c1 z]; exact ⟨-1, rfl, by decide, by decide⟩
              · rw [c3 z]; exact ⟨0, rfl, by decide, by decide⟩
              · rw [c2 z]; exact ⟨1, rfl, by decide, by decide⟩
  next => cases h
set_option maxHeartbeats 4000000 in
theorem as1_ok {own nL : Nat} {i : Instr} {als als' : aL} {ast ast' : List aV} {ls : xL} {st : List Value} (h : as1 own nL i als ast = some (als', ast')) (hl : aGL als ls) (hs : aGl ast st) :
    ∃ ls' st', xs1 own nL i ls st = some (ls', st') ∧ aGL als' ls' ∧ aGl ast' st' := by
  unfold as1 at h
  split at h
  next => cases h; exact ⟨_, _, rfl, hl, rfl, hs⟩
  next => cases h; exact ⟨_, _, rfl, hl, rfl, hs⟩
  next => cases h; exact ⟨_, _, rfl, hl, rfl, hs⟩
  next => cases h; exact ⟨_, _, rfl, hl, rfl, hs⟩
  next => obtain ⟨v, hv, hh⟩ := xmap h; cases hh; exact ⟨ls, .int v.1 :: st, by simp [xs1, hv], hl, rfl, hs⟩
  next => obtain ⟨v, hv, hh⟩ := xmap h; cases hh; exact ⟨ls, .int v.1 :: st, by simp [xs1, hv], hl, rfl, hs⟩
  next => obtain ⟨v, hv, hh⟩ := xmap h; cases hh; exact ⟨ls, .long v.1 :: st, by simp [xs1, hv], hl, rfl, hs⟩
  next => obtain ⟨v, hv, hh⟩ := xmap h; cases hh; obtain ⟨x, h1, h2⟩ := ald_ok hl hv; exact ⟨ls, .int x :: st, by simp [xs1, h1], hl, h2, hs⟩
  next => obtain ⟨v, hv, hh⟩ := xmap h; cases hh; obtain ⟨x, h1, h2⟩ := ald_ok hl hv; exact ⟨ls, .int x :: st, by simp [xs1, h1], hl, h2, hs⟩
  next => obtain ⟨v, hv, hh⟩ := xmap h; cases hh; obtain ⟨x, h1, h2⟩ := aldl_ok hl hv; exact ⟨ls, .long x :: st, by simp [xs1, h1], hl, h2, hs⟩
  next => obtain ⟨v, hv, hh⟩ := xmap h; cases hh; obtain ⟨x, h1, h2⟩ := aldl_ok hl hv; exact ⟨ls, .long x :: st, by simp [xs1, h1], hl, h2, hs⟩
  next => obtain ⟨v, hv, hh⟩ := xmap h; cases hh; obtain ⟨x, h1, h2⟩ := alda_ok hl hv; exact ⟨ls, x :: st, by simp [xs1, h1], hl, h2, hs⟩
  next => obtain ⟨v, hv, hh⟩ := xmap h; cases hh; obtain ⟨x, h1, h2⟩ := alda_ok hl hv; exact ⟨ls, x :: st, by simp [xs1, h1], hl, h2, hs⟩
  next =>
    split at h
    next p hp =>
      obtain ⟨hk, hh⟩ := xbif h; cases hh
      obtain ⟨v, vs, rfl, g1, g2⟩ := aGl_cons hs
      obtain ⟨x, rfl, -⟩ := ai_ok (lo := p.1) (hi := p.2) hp g1
      exact ⟨_, _, by simp only [xs1, hk, cond_true], axs_1_ok hl _ g1, g2⟩
    next => cases h
  next =>
    split at h
    next p hp =>
      obtain ⟨hk, hh⟩ := xbif h; cases hh
      obtain ⟨v, vs, rfl, g1, g2⟩ := aGl_cons hs
      obtain ⟨x, rfl, -⟩ := ai_ok (lo := p.1) (hi := p.2) hp g1
      exact ⟨_, _, by simp only [xs1, hk, cond_true], axs_1_ok hl _ g1, g2⟩
    next => cases h
  next =>
    split at h
    next a ha =>
      split at h
      next x hx =>
        obtain ⟨hk, hh⟩ := xbif h; cases hh
        obtain ⟨x', h1, h2⟩ := ald_ok hl ha
        cases aex_ok hx h2
        exact ⟨_, _, by simp only [xs1, h1, hk, cond_true], axs_1_ok hl _ rfl, hs⟩
      next => cases h
    next => cases h
  next =>
    obtain ⟨v, hv, hh⟩ := xmap h; cases hh
    obtain ⟨w, vs, rfl, g1, g2⟩ := aGl_cons hs
    obtain ⟨x, rfl, g3⟩ := a2l_ok hv g1
    exact ⟨_, _, rfl, hl, g3, g2⟩
  next =>
    obtain ⟨p, hv, hh⟩ := xmap h; cases hh
    obtain ⟨w, vs, rfl, g1, g2⟩ := aGl_cons hs
    obtain ⟨x, rfl, -⟩ := aj_ok (lo := p.1) (hi := p.2) hv g1
    exact ⟨_, _, rfl, hl, aT_ok _, g2⟩
  next =>
    split at h
    next y hy =>
      obtain ⟨v, hv, hh⟩ := xmap h; cases hh
      obtain ⟨w1, vs1, rfl, g1, g2⟩ := aGl_cons hs
      obtain ⟨w2, vs2, rfl, g3, g4⟩ := aGl_cons g2
      cases aex_ok hy g1
      obtain ⟨x, rfl, hy0, g5⟩ := adv_ok hv g3
      exact ⟨ls, .int (x / y) :: vs2, by simp only [xs1]; rw [if_neg hy0], hl, g5, g4⟩
    next => cases h
  next =>
    split at h
    next y hy =>
      obtain ⟨v, hv, hh⟩ := xmap h; cases hh
      obtain ⟨w1, vs1, rfl, g1, g2⟩ := aGl_cons hs
      obtain ⟨w2, vs2, rfl, g3, g4⟩ := aGl_cons g2
      cases aex_ok hy g1
      obtain ⟨x, rfl, hy0, g5⟩ := arm_ok hv g3
      exact ⟨ls, .int (x - x / y * y) :: vs2, by simp only [xs1]; rw [if_neg hy0], hl, g5, g4⟩
    next => cases h
  next =>
    split at h
    next p q hp hq =>
      cases h
      obtain ⟨w1, vs1, rfl, g1, g2⟩ := aGl_cons hs
      obtain ⟨w2, vs2, rfl, g3, g4⟩ := aGl_cons g2
      obtain ⟨x, rfl, -⟩ := ai_ok (lo := p.1) (hi := p.2) hp g1
      obtain ⟨y, rfl, -⟩ := aj_ok (lo := q.1) (hi := q.2) hq g3
      exact ⟨_, _, rfl, hl, aTL_ok _, g4⟩
    next => cases h
  next =>
    split at h
    next p q hp hq =>
      cases h
      obtain ⟨w1, vs1, rfl, g1, g2⟩ := aGl_cons hs
      obtain ⟨w2, vs2, rfl, g3, g4⟩ := aGl_cons g2
      obtain ⟨x, rfl, -⟩ := aj_ok (lo := p.1) (hi := p.2) hp g1
      obtain ⟨y, rfl, -⟩ := aj_ok (lo := q.1) (hi := q.2) hq g3
      exact ⟨_, _, rfl, hl, aTL_ok _, g4⟩
    next => cases h
  next =>
    split at h
    next p q hp hq =>
      cases h
      obtain ⟨w1, vs1, rfl, g1, g2⟩ := aGl_cons hs
      obtain ⟨w2, vs2, rfl, g3, g4⟩ := aGl_cons g2
      obtain ⟨x, rfl, -⟩ := aj_ok (lo := p.1) (hi := p.2) hp g1
      obtain ⟨y, rfl, -⟩ := aj_ok (lo := q.1) (hi := q.2) hq g3
      exact ⟨_, _, rfl, hl, aTL_ok _, g4⟩
    next => cases h
  next =>
    obtain ⟨v, hv, hh⟩ := xmap h; cases hh
    obtain ⟨w1, vs1, rfl, g1, g2⟩ := aGl_cons hs
    obtain ⟨w2, vs2, rfl, g3, g4⟩ := aGl_cons g2
    obtain ⟨x, y, rfl, rfl, e⟩ := alc_ok hv g3 g1
    exact ⟨ls, .int (lg_cmp x y) :: vs2, rfl, hl, e, g4⟩
  next =>
    obtain ⟨hk, hh⟩ := xbif h; cases hh
    obtain ⟨w1, vs1, rfl, g1, g2⟩ := aGl_cons hs
    have hc : w1.category = 1 := (acat_ok g1).trans (Nat.eq_of_beq_eq_true hk)
    exact ⟨ls, w1 :: w1 :: vs1, by simp only [xs1]; rw [if_pos hc], hl, g1, g1, g2⟩
  next =>
    obtain ⟨hk, hh⟩ := xbif h; cases hh
    obtain ⟨w1, vs1, rfl, g1, g2⟩ := aGl_cons hs
    have hc : w1.category = 1 := (acat_ok g1).trans (Nat.eq_of_beq_eq_true hk)
    exact ⟨ls, vs1, by simp only [xs1]; rw [if_pos hc], hl, g2⟩
  next =>
    obtain ⟨w1, vs1, rfl, g1, g2⟩ := aGl_cons hs
    obtain ⟨w2, vs2, rfl, g3, g4⟩ := aGl_cons g2
    split at h
    next f hf =>
      split at h
      next y x hy hx =>
        cases h
        cases aex_ok hy g1
        cases aex_ok hx g3
        exact ⟨_, _, abop_ok hf own nL ls x y vs2, hl, rfl, g4⟩
      next =>
        split at h
        next p q hp hq =>
          cases h
          obtain ⟨y, rfl, -⟩ := ai_ok (lo := p.1) (hi := p.2) hp g1
          obtain ⟨x, rfl, -⟩ := ai_ok (lo := q.1) (hi := q.2) hq g3
          exact ⟨_, _, abop_ok hf own nL ls x y vs2, hl, aT_ok _, g4⟩
        next => cases h
    next =>
      split at h
      next f hf =>
        obtain ⟨v, hv, hh⟩ := xmap h; cases hh
        obtain ⟨x, rfl, g5⟩ := aun_ok hv g1
        exact ⟨_, _, auop_ok hf own nL ls x (w2 :: vs2), hl, g5, g3, g4⟩
      next => cases h
  next =>
    obtain ⟨w1, vs1, rfl, g1, g2⟩ := aGl_cons hs
    split at h
    next f hf =>
      obtain ⟨v, hv, hh⟩ := xmap h; cases hh
      obtain ⟨x, rfl, g5⟩ := aun_ok hv g1
      exact ⟨_, _, auop_ok hf own nL ls x vs1, hl, g5, g2⟩
    next => cases h
  next => cases h
theorem acl_ok {p q : Int × Int} {b : Bool} {x y : Int32} (h : acl p q = some b) (x1 : p.1 ≤ x.toInt) (x2 : x.toInt ≤ p.2) (y1 : q.1 ≤ y.toInt) (y2 : y.toInt ≤ q.2) : (x < y ↔ b = true) := by
  unfold acl at h
  cases h1 : decide (p.2 < q.1) with
  | true =>
    rw [h1] at h; cases h
    have h1 := of_decide_eq_true h1
    exact ⟨fun _ => rfl, fun _ => Int32.lt_iff_toInt_lt.mpr (by omega)⟩
  | false =>
    rw [h1, cond_false] at h
    obtain ⟨h2, h⟩ := xbif h
    cases h
    have h2 := of_decide_eq_true h2
    exact ⟨fun z => by have := Int32.lt_iff_toInt_lt.mp z; omega, fun z => by cases z⟩
theorem ace_ok {p q : Int × Int} {b : Bool} {x y : Int32} (h : ace p q = some b) (x1 : p.1 ≤ x.toInt) (x2 : x.toInt ≤ p.2) (y1 : q.1 ≤ y.toInt) (y2 : y.toInt ≤ q.2) : (x = y ↔ b = true) := by
  unfold ace at h
  cases h1 : (decide (p.1 = p.2) && decide (q.1 = q.2) && decide (p.1 = q.1)) with
  | true =>
    rw [h1] at h; cases h
    simp only [Bool.and_eq_true, decide_eq_true_eq] at h1
    exact ⟨fun _ => rfl, fun _ => Int32.toInt_inj.mp (by omega)⟩
  | false =>
    rw [h1, cond_false] at h
    obtain ⟨h2, h⟩ := xbif h
    cases h
    simp only [Bool.or_eq_true, decide_eq_true_eq] at h2
    exact ⟨fun z => by subst z; omega, fun z => by cases z⟩
theorem acmp_ok {c : ClassFile.Cond} {p q : Int × Int} {b : Bool} {x y : Int32} (h : acmp c p q = some b) (x1 : p.1 ≤ x.toInt) (x2 : x.toInt ≤ p.2) (y1 : q.1 ≤ y.toInt) (y2 : y.toInt ≤ q.2) : xcmp c x y = b := by
  have fin : ∀ {P : Prop} [Decidable P] {u : Bool}, (P ↔ u = true) → decide P = u := fun {P} _ {u} g => by cases u <;> simp [g]
  have neg : ∀ {P : Prop} [Decidable P] {u : Bool}, (P ↔ u = true) → decide (¬ P) = !u := fun {P} _ {u} g => by cases u <;> simp [g]
  unfold acmp at h
  unfold xcmp
  cases c with
  | eq => exact fin (ace_ok h x1 x2 y1 y2)
  | ne => obtain ⟨u, hu, e⟩ := xmap h; subst e; exact neg (ace_ok hu x1 x2 y1 y2)
  | lt => exact fin (acl_ok h x1 x2 y1 y2)
  | ge =>
    obtain ⟨u, hu, e⟩ := xmap h; subst e
    rw [← neg (acl_ok hu x1 x2 y1 y2)]
    show decide (y ≤ x) = _
    exact decide_eq_decide.mpr (by rw [Int32.le_iff_toInt_le, Int32.lt_iff_toInt_lt]; omega)
  | gt => exact fin (acl_ok h y1 y2 x1 x2)
  | le =>
    obtain ⟨u, hu, e⟩ := xmap h; subst e
    rw [← neg (acl_ok hu y1 y2 x1 x2)]
    show decide (x ≤ y) = _
    exact decide_eq_decide.mpr (by rw [Int32.le_iff_toInt_le, Int32.lt_iff_toInt_lt]; omega)
