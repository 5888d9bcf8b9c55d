/-! runs of the pure machine: rows, calls, ends -/
theorem hneg {x : Int32} (h : ¬ x < 0) : 0 ≤ x.toInt := by
  have h3 : (0 : Int32).toInt = 0 := by decide
  rcases (show x.toInt < 0 ∨ 0 ≤ x.toInt from by omega) with z | z
  · exact absurd (Int32.lt_iff_toInt_lt.mpr (by rw [h3]; exact z)) h
  · exact z
theorem hW_row {p : xH} {r t : Nat} {b : Nat × Int × Int} (h : hW p) (hG : jgc jGG r = some (t, .inr b)) : ∃ vs, p[r]? = some (t, vs) ∧ vs.length = b.1 ∧ ∀ v ∈ vs, jk v = if t = 102 then 1 else 0 := by
  obtain ⟨vs, hc, hl, -, a2, a3⟩ := hW_cell h hG
  exact ⟨vs, hc, hl, a3⟩
theorem rV_at {p : xH} {r t k : Nat} {vs : List Value} {v : Value} (hc : p[r]? = some (t, vs)) (hv : vs[k]? = some v) : rV p r k = v := by
  unfold rV
  rw [hc]
  dsimp only
  rw [List.getD_eq_getElem?_getD, hv]
  rfl
section HP2
variable {ro : List (List Int32)} {n d : Nat} {q : xQ} {pc pc' : Nat} {ls ls' : xL} {st st' : List Value} {p : xH} {Q : Option Value → xH → Prop} {i : Instr}
/-- elements of rows of ints, of booleans (t: 100, 101) -/
theorem hp_ld {r : Nat} {b : Nat × Int × Int} {j v : Int32} {t : Nat} (hi : xcg q.2.2.2.2 pc = some (bif Nat.beq t 101 then .baload else .iaload)) (ht : t = 100 ∨ t = 101) (hG : jgc jGG r = some (t, .inr b)) (hp : pc + 1 = pc') (hv : rI p r j.toInt.toNat = v) (K : 0 ≤ j.toInt → j.toInt < b.1 → hP ro n d q pc' ls (.int v :: st) p Q) : hP ro n d q pc ls (.int j :: .ref r :: st) p Q := by
  subst hp hv
  intro hw r2 p2 e
  cases n with
  | zero => simp [ev] at e
  | succ n =>
    obtain ⟨vs, hc, hl, hk⟩ := hW_row hw hG
    have key : ∀ {x : Int32}, ¬ j < 0 → vs[j.toNatClampNeg]? = some (.int x) → 0 ≤ j.toInt ∧ j.toInt < b.1 ∧ rI p r j.toInt.toNat = x := fun {x} h1 h2 => by
      have h3 := hneg h1
      have h4 := (List.getElem?_eq_some_iff.mp h2).1
      have h5 : j.toNatClampNeg = j.toInt.toNat := rfl
      refine ⟨h3, by omega, ?_⟩
      unfold rI
      rw [← h5, rV_at hc h2]
    rcases ht with rfl | rfl
    · obtain ⟨st', h', e1, e2⟩ := ev_hx (i := .iaload) hi rfl rfl rfl rfl rfl rfl rfl e
      simp only [xho, hc] at e1
      rw [show Nat.beq 100 100 = true from rfl, cond_true] at e1
      split at e1
      next => cases e1
      next h1 =>
        split at e1
        next x h2 =>
          cases e1
          obtain ⟨k1, k2, k3⟩ := key h1 h2
          exact K k1 k2 hw r2 p2 (by rw [k3]; exact ev_more _ e2)
        next => cases e1
    · obtain ⟨st', h', e1, e2⟩ := ev_hx (i := .baload) hi rfl rfl rfl rfl rfl rfl rfl e
      simp only [xho, hc] at e1
      rw [show Nat.beq 101 101 = true from rfl, cond_true] at e1
      split at e1
      next => cases e1
      next h1 =>
        split at e1
        next x h2 =>
          cases e1
          obtain ⟨k1, k2, k3⟩ := key h1 h2
          exact K k1 k2 hw r2 p2 (by rw [k3]; exact ev_more _ e2)
        next => cases e1
theorem hp_ldl {r : Nat} {b : Nat × Int × Int} {j : Int32} {v : Int64} (hi : xcg q.2.2.2.2 pc = some .laload) (hG : jgc jGG r = some (102, .inr b)) (hp : pc + 1 = pc') (hv : rJ p r j.toInt.toNat = v) (K : 0 ≤ j.toInt → j.toInt < b.1 → hP ro n d q pc' ls (.long v :: st) p Q) : hP ro n d q pc ls (.int j :: .ref r :: st) p Q := by
  subst hp hv
  intro hw r2 p2 e
  cases n with
  | zero => simp [ev] at e
  | succ n =>
    obtain ⟨vs, hc, hl, hk⟩ := hW_row hw hG
    obtain ⟨st', h', e1, e2⟩ := ev_hx (i := .laload) hi rfl rfl rfl rfl rfl rfl rfl e
    simp only [xho, hc] at e1
    rw [show Nat.beq 102 102 = true from rfl, cond_true] at e1
    split at e1
    next => cases e1
    next h1 =>
      split at e1
      next x h2 =>
        cases e1
        have h3 := hneg h1
        have h4 := (List.getElem?_eq_some_iff.mp h2).1
        have h5 : j.toNatClampNeg = j.toInt.toNat := rfl
        have h6 : rJ p r j.toInt.toNat = x := by unfold rJ; rw [← h5, rV_at hc h2]
        exact K h3 (by omega) hw r2 p2 (by rw [h6]; exact ev_more _ e2)
      next => cases e1
/-- an element is written -/
theorem hp_st {r : Nat} {b : Nat × Int × Int} {j x : Int32} {t : Nat} (hi : xcg q.2.2.2.2 pc = some (bif Nat.beq t 101 then .bastore else .iastore)) (ht : t = 100 ∨ t = 101) (hG : jgc jGG r = some (t, .inr b)) (hp : pc + 1 = pc') (K : ∀ p', hW p → 0 ≤ j.toInt → j.toInt < b.1 → p' = wV p r j.toInt.toNat (.int x) → hP ro n d q pc' ls st p' Q) : hP ro n d q pc ls (.int x :: .int j :: .ref r :: st) p Q := by
  subst hp
  intro hw r2 p2 e
  cases n with
  | zero => simp [ev] at e
  | succ n =>
    obtain ⟨vs, hc, hl, hk⟩ := hW_row hw hG
    have hT0 : hT r j.toInt.toNat = some (jk (.int x)) := by
      unfold hT
      rw [hG]
      rcases ht with rfl | rfl <;> rfl
    have e3 : p.set r (t, vs.set j.toInt.toNat (.int x)) = wV p r j.toInt.toNat (.int x) := by unfold wV; rw [hc]
    have h5 : j.toNatClampNeg = j.toInt.toNat := rfl
    rcases ht with rfl | rfl
    · obtain ⟨st', h', e1, e2⟩ := ev_hx (i := .iastore) hi rfl rfl rfl rfl rfl rfl rfl e
      simp only [xho, hc] at e1
      rw [h5] at e1
      cases hB : (Nat.beq 100 100 && Nat.blt j.toInt.toNat vs.length) with
      | false => rw [hB] at e1; cases e1
      | true =>
        rw [hB, cond_true] at e1
        rw [Bool.and_eq_true] at hB
        have h6 := Nat.le_of_ble_eq_true hB.2
        split at e1
        next => cases e1
        next h1 =>
          cases e1
          rw [e3] at e2
          exact K _ hw (hneg h1) (by have := hneg h1; omega) rfl (hW_wV hw hT0) r2 p2 (ev_more _ e2)
    · obtain ⟨st', h', e1, e2⟩ := ev_hx (i := .bastore) hi rfl rfl rfl rfl rfl rfl rfl e
      simp only [xho, hc] at e1
      rw [h5] at e1
      cases hB : (Nat.beq 101 101 && Nat.blt j.toInt.toNat vs.length && (x == 0 || x == 1)) with
      | false => rw [hB] at e1; cases e1
      | true =>
        rw [hB, cond_true] at e1
        rw [Bool.and_eq_true, Bool.and_eq_true] at hB
        have h6 := Nat.le_of_ble_eq_true hB.1.2
        split at e1
        next => cases e1
        next h1 =>
          cases e1
          rw [e3] at e2
          exact K _ hw (hneg h1) (by have := hneg h1; omega) rfl (hW_wV hw hT0) r2 p2 (ev_more _ e2)
theorem hp_stl {r : Nat} {b : Nat × Int × Int} {j : Int32} {x : Int64} (hi : xcg q.2.2.2.2 pc = some .lastore) (hG : jgc jGG r = some (102, .inr b)) (hp : pc + 1 = pc') (K : ∀ p', hW p → 0 ≤ j.toInt → j.toInt < b.1 → p' = wV p r j.toInt.toNat (.long x) → hP ro n d q pc' ls st p' Q) : hP ro n d q pc ls (.long x :: .int j :: .ref r :: st) p Q := by
  subst hp
  intro hw r2 p2 e
  cases n with
  | zero => simp [ev] at e
  | succ n =>
    obtain ⟨vs, hc, hl, hk⟩ := hW_row hw hG
    have hT0 : hT r j.toInt.toNat = some (jk (.long x)) := by
      unfold hT
      rw [hG]
      rfl
    have e3 : p.set r (102, vs.set j.toInt.toNat (.long x)) = wV p r j.toInt.toNat (.long x) := by unfold wV; rw [hc]
    have h5 : j.toNatClampNeg = j.toInt.toNat := rfl
    obtain ⟨st', h', e1, e2⟩ := ev_hx (i := .lastore) hi rfl rfl rfl rfl rfl rfl rfl e
    simp only [xho, hc] at e1
    rw [h5] at e1
    cases hB : (Nat.beq 102 102 && Nat.blt j.toInt.toNat vs.length) with
    | false => rw [hB] at e1; cases e1
    | true =>
      rw [hB, cond_true] at e1
      rw [Bool.and_eq_true] at hB
      have h6 := Nat.le_of_ble_eq_true hB.2
      split at e1
      next => cases e1
      next h1 =>
        cases e1
        rw [e3] at e2
        exact K _ hw (hneg h1) (by have := hneg h1; omega) rfl (hW_wV hw hT0) r2 p2 (ev_more _ e2)
/-- how long a row is -/
theorem hp_len {r : Nat} {b : Nat × Int × Int} (hi : xcg q.2.2.2.2 pc = some .arraylength) (hG : jgc jGG r = some (100, .inr b)) (hp : pc + 1 = pc') (K : hP ro n d q pc' ls (.int (Int32.ofNat b.1) :: st) p Q) : hP ro n d q pc ls (.ref r :: st) p Q := by
  subst hp
  intro hw
  obtain ⟨vs, hc, hl, -⟩ := hW_row hw hG
  exact hp_w (p' := p) (fun n => ev_h (i := .arraylength) hi rfl rfl (by simp only [xho, hc]; rw [show Nat.beq 100 100 = true from rfl, cond_true, hl])) id K hw
/-- the static rows -/
theorem hp_sta {idx k z : Nat} (hi : xcg q.2.2.2.2 pc = some (.getstatic idx)) (hF : xtb xG q.1 idx = some (k, z)) (hp : pc + 3 = pc') (K : hP ro n d q pc' ls (.retAddr k :: st) p Q) : hP ro n d q pc ls st p Q := by
  subst hp
  exact hp_w (p' := p) (fun n => ev_h (i := .getstatic idx) hi (by unfold xs1; split <;> first | rfl | (cases ‹Instr.getstatic _ = _›)) (by unfold xbr; split <;> first | rfl | (cases ‹Instr.getstatic _ = _›)) (by unfold xho; split <;> first | (rw [hF]; rfl) | (cases ‹Instr.getstatic _ = _›; rw [hF]; rfl) | (cases ‹Instr.getstatic _ = _›))) id K
theorem hp_lds {s : Nat} {xs : List Int32} {j v : Int32} (hro : ro[s]? = some xs) (hi : xcg q.2.2.2.2 pc = some .iaload) (hp : pc + 1 = pc') (hv : xs.getD j.toInt.toNat 0 = v) (K : 0 ≤ j.toInt → j.toInt < xs.length → hP ro n d q pc' ls (.int v :: st) p Q) : hP ro n d q pc ls (.int j :: .retAddr s :: st) p Q := by
  subst hp hv
  intro hw r2 p2 e
  cases n with
  | zero => simp [ev] at e
  | succ n =>
    obtain ⟨st', h', e1, e2⟩ := ev_hx (i := .iaload) hi rfl rfl rfl rfl rfl rfl rfl e
    simp only [xho, hro] at e1
    split at e1
    next => cases e1
    next h1 =>
      obtain ⟨x, h2, h3⟩ := xmap e1
      cases h3
      have h3 := hneg h1
      have h4 := (List.getElem?_eq_some_iff.mp h2).1
      have h5 : j.toNatClampNeg = j.toInt.toNat := rfl
      exact K h3 (by omega) hw r2 p2 (by rw [← h5, List.getD_eq_getElem?_getD, h2]; exact ev_more _ e2)
/-- ends -/
theorem hp_r {r : Option Value} (hi : xcg q.2.2.2.2 pc = some i) (h0 : xs1 q.1 q.2.1 i ls st = none) (h1 : xbr i pc st = none) (h2 : xho ro q.1 q.2.2.1 i st p = none) (h3 : xrt q.2.2.2.1 i st = some r) (K : Q r p) : hP ro n d q pc ls st p Q := by
  intro hw r2 p2 e
  cases n with
  | zero => simp [ev] at e
  | succ n =>
    rw [ev_r hi h0 h1 h2 h3] at e
    cases e
    exact ⟨hw, K⟩
theorem hp_ri {x : Int32} (hi : xcg q.2.2.2.2 pc = some .ireturn) (hr : q.2.2.2.1 = 1) (K : Q (some (.int x)) p) : hP ro n d q pc ls [.int x] p Q :=
  hp_r (i := .ireturn) hi rfl rfl rfl (by rw [hr]; rfl) K
theorem hp_rb {x : Int32} (hi : xcg q.2.2.2.2 pc = some .ireturn) (hr : q.2.2.2.1 = 2) (K : x = 0 ∨ x = 1 → Q (some (.int x)) p) : hP ro n d q pc ls [.int x] p Q := by
  intro hw r2 p2 e
  by_cases hx : (x == 0 || x == 1) = true
  · refine hp_r (i := .ireturn) (r := some (.int x)) hi rfl rfl rfl (by rw [hr]; simp only [xrt]; rw [hx]; rfl) (K ?_) hw r2 p2 e
    rw [Bool.or_eq_true] at hx
    exact hx.imp eq_of_beq eq_of_beq
  · cases n with
    | zero => simp [ev] at e
    | succ n =>
      have hx : (x == 0 || x == 1) = false := by cases h : (x == 0 || x == 1) with
        | false => rfl
        | true => exact absurd h hx
      obtain ⟨st', h', e1, -⟩ := ev_hx (i := .ireturn) hi rfl rfl (by rw [hr]; simp only [xrt]; rw [hx]; rfl) rfl rfl rfl rfl e
      cases e1
theorem hp_rl {x : Int64} (hi : xcg q.2.2.2.2 pc = some .lreturn) (hr : q.2.2.2.1 = 3) (K : Q (some (.long x)) p) : hP ro n d q pc ls [.long x] p Q :=
  hp_r (i := .lreturn) hi rfl rfl rfl (by rw [hr]; rfl) K
theorem hp_rv (hi : xcg q.2.2.2.2 pc = some .return_) (hr : q.2.2.2.1 = 0) (K : Q none p) : hP ro n d q pc ls [] p Q :=
  hp_r (i := .return_) hi rfl rfl rfl (by rw [hr]; rfl) K
/-- calls -/
theorem hp_c {y : Nat} {q' : xQ} {as rest : List Value} (hi : xcg q.2.2.2.2 pc = some i) (h0 : xs1 q.1 q.2.1 i ls st = none) (h1 : xbr i pc st = none) (h2 : xho ro q.1 q.2.2.1 i st p = none) (h3 : xrt q.2.2.2.1 i st = none) (h4 : xob q.1 i st = none) (h5 : xmm q.1 i st = none) (h5b : xay q.1 i st p = none) (h6 : hW p → xca q.1 i st p = some (y, as, rest)) (h7 : xM[y]? = some q') (hp : pc + 3 = pc')
    (K : ∀ d', hP ro n d' q' 0 (lv_args 0 as) [] p (fun r p' => hP ro n d q pc' ls (r.toList ++ rest) p' Q)) : hP ro n d q pc ls st p Q := by
  subst hp
  intro hw r2 p2 e
  cases n with
  | zero => simp [ev] at e
  | succ n =>
    cases d with
    | zero =>
      rw [ev, hi] at e
      dsimp only at e
      rw [h0] at e
      dsimp only at e
      rw [h1] at e
      dsimp only at e
      rw [h2] at e
      dsimp only at e
      rw [h3] at e
      cases e
    | succ d =>
      rw [ev, hi] at e
      dsimp only at e
      rw [h0] at e
      dsimp only at e
      rw [h1] at e
      dsimp only at e
      rw [h2] at e
      dsimp only at e
      rw [h3] at e
      dsimp only at e
      rw [h4] at e
      dsimp only at e
      rw [h5] at e
      dsimp only at e
      rw [h5b] at e
      dsimp only at e
      rw [h6 hw] at e
      dsimp only at e
      rw [h7] at e
      dsimp only at e
      cases hB : (Nat.ble (xcs rest) 8 && Nat.ble (xcs as) q'.2.1) with
      | false => rw [hB] at e; cases e
      | true =>
        rw [hB, cond_true] at e
        split at e
        next => cases e
        next r h' e1 =>
          obtain ⟨k1, k2⟩ := K d hw r h' (ev_more _ e1)
          exact k2 k1 r2 p2 (ev_more _ e)
theorem hp_cv {idx y m pl r o kd : Nat} {q' : xQ} {g2 : List (Value ⊕ (Int × Int)) ⊕ (Nat × Int × Int)} {as rest : List Value} (hi : xcg q.2.2.2.2 pc = some (.invokevirtual idx)) (hC : xtb xC q.1 idx = some (y, m, pl, 0)) (hM : xM[y]? = some q') (ho : q'.1 = o) (hk : q'.2.2.1 = kd) (hT : xtk m [] st = some (as, .ref r :: rest)) (hG : jgc jGG r = some (o, g2)) (hy : (Nat.blt y xOw && Nat.beq kd 1 && Nat.blt o 13) = true) (hp : pc + 3 = pc')
    (K : ∀ d', hP ro n d' q' 0 (lv_args 0 (.ref r :: as)) [] p (fun v p' => hP ro n d q pc' ls (v.toList ++ rest) p' Q)) : hP ro n d q pc ls st p Q := by
  obtain ⟨o2, nl, kd2, rk, cd⟩ := q'
  have ho : o2 = o := ho
  have hk : kd2 = kd := hk
  subst ho hk
  rw [Bool.and_eq_true, Bool.and_eq_true] at hy
  refine hp_c (as := .ref r :: as) (rest := rest) hi rfl rfl rfl rfl ?_ ?_ ?_ (fun hw => ?_) hM hp K
  · unfold xob; split <;> first | rfl | (cases ‹Instr.invokevirtual _ = _›)
  · unfold xmm; split <;> first | rfl | (cases ‹Instr.invokevirtual _ = _›)
  · unfold xay; split <;> first | rfl | (cases ‹Instr.invokevirtual _ = _›)
  · obtain ⟨vs, hc, -⟩ := hW_cell hw hG
    simp only [xca, hC, hM, hT, hc]
    rw [hy.1.1, hy.1.2, hy.2, show Nat.beq 0 0 = true from rfl, Nat.beq_refl]
    rfl
theorem hp_cs {idx y m pl kd : Nat} {q' : xQ} {as rest : List Value} (hi : xcg q.2.2.2.2 pc = some (.invokestatic idx)) (hC : xtb xC q.1 idx = some (y, m, pl, 0)) (hM : xM[y]? = some q') (hk : q'.2.2.1 = kd) (hT : xtk m [] st = some (as, rest)) (hy : (Nat.blt y xOw && Nat.beq kd 0 && !(Nat.beq y xMx) && !(Nat.beq y xMn)) = true) (hp : pc + 3 = pc')
    (K : ∀ d', hP ro n d' q' 0 (lv_args 0 as) [] p (fun v p' => hP ro n d q pc' ls (v.toList ++ rest) p' Q)) : hP ro n d q pc ls st p Q := by
  obtain ⟨o2, nl, kd2, rk, cd⟩ := q'
  have hk : kd2 = kd := hk
  subst hk
  rw [Bool.and_eq_true, Bool.and_eq_true, Bool.and_eq_true, Bool.not_eq_true', Bool.not_eq_true'] at hy
  refine hp_c (as := as) (rest := rest) hi rfl rfl rfl rfl rfl ?_ (xay_none hC st p) (fun hw => ?_) hM hp K
  · unfold xmm
    split
    next idx2 y2 x2 rest2 heq =>
      cases heq
      rw [hC]
      dsimp only
      rw [hy.1.2, hy.2]
      rfl
    next => rfl
  · simp only [xca, hC, hM, hT]
    rw [hy.1.1.1, hy.1.1.2, show Nat.beq 0 0 = true from rfl]
    rfl
end HP2
