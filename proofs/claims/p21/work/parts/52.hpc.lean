/-! runs of the pure machine: more rows; numbers -/
section HP3
variable {ro : List (List Int32)} {n d : Nat} {q : xQ} {pc pc' : Nat} {ls ls' : xL} {st st' : List Value} {p : xH} {Q : Option Value → xH → Prop} {i : Instr}
theorem hp_hw (K : hW p → hP ro n d q pc ls st p Q) : hP ro n d q pc ls st p Q := fun hw => K hw hw
theorem hp_id (K : hP ro n d q pc ls st p Q) : hP ro n d q pc ls st p Q := K
theorem hp_inc {k : Nat} {c : Int} {x : Int32} {L : Int32 → xL} (hi : xcg q.2.2.2.2 pc = some (.iinc k c)) (hx : xldi ls k = some x) (hk : Nat.blt k q.2.1 = true) (hL : ∀ z, xs_1 ls k (.int z) = L z) (hp : pc + 3 = pc') (K : ∀ z, z = x + Int32.ofInt c → hP ro n d q pc' (L z) st p Q) : hP ro n d q pc ls st p Q := by
  subst hp
  refine hp_s (i := .iinc k c) (ls' := L (x + Int32.ofInt c)) (st' := st) hi ?_ rfl (K _ rfl)
  have h : xs1 q.1 q.2.1 (.iinc k c) ls st = (match xldi ls k with | some x => bif Nat.blt k q.2.1 then some (xs_1 ls k (.int (x + Int32.ofInt c)), st) else none | none => none) := rfl
  rw [h, hx]
  dsimp only
  rw [hk, cond_true, hL]
theorem hp_i2l {x : Int32} (hi : xcg q.2.2.2.2 pc = some .i2l) (hp : pc + 1 = pc') (K : ∀ z : Int64, z = x.toInt64 → z.toInt = x.toInt → hP ro n d q pc' ls (.long z :: st) p Q) : hP ro n d q pc ls (.int x :: st) p Q := by
  subst hp
  exact hp_s (i := .i2l) (ls' := ls) (st' := .long x.toInt64 :: st) hi rfl rfl (K _ rfl (Int32.toInt_toInt64 x))
theorem hp_mm {idx : Nat} {x y e : Int32} {rest : List Value} (hi : xcg q.2.2.2.2 pc = some (.invokestatic idx)) (h5 : xmm q.1 (.invokestatic idx) (.int y :: .int x :: rest) = some (.int e :: rest)) (hp : pc + 3 = pc') (K : ∀ z, z = e → hP ro n d q pc' ls (.int z :: rest) p Q) : hP ro n d q pc ls (.int y :: .int x :: rest) p Q := by
  subst hp
  intro hw r2 p2 ee
  have h0 : xs1 q.1 q.2.1 (.invokestatic idx) ls (.int y :: .int x :: rest) = none := rfl
  have h1 : xbr (.invokestatic idx) pc (.int y :: .int x :: rest) = none := rfl
  have h2 : xho ro q.1 q.2.2.1 (.invokestatic idx) (.int y :: .int x :: rest) p = none := rfl
  have h3 : xrt q.2.2.2.1 (.invokestatic idx) (.int y :: .int x :: rest) = none := rfl
  have h4 : xob q.1 (.invokestatic idx) (.int y :: .int x :: rest) = none := rfl
  cases n with
  | zero => simp [ev] at ee
  | succ n =>
    rw [ev, hi] at ee
    dsimp only at ee
    rw [h0] at ee
    dsimp only at ee
    rw [h1] at ee
    dsimp only at ee
    rw [h2] at ee
    dsimp only at ee
    rw [h3] at ee
    dsimp only at ee
    cases d with
    | zero => cases ee
    | succ d =>
      dsimp only at ee
      rw [h4] at ee
      dsimp only at ee
      rw [h5] at ee
      dsimp only at ee
      cases hB : Nat.ble (xcs (.int e :: rest)) 8 with
      | false => rw [hB] at ee; cases ee
      | true =>
        rw [hB, cond_true] at ee
        exact K e rfl hw r2 p2 (ev_more _ ee)
end HP3
theorem i_bm (a : Int) (h1 : -4294967296 ≤ a) (h2 : a ≤ 4294967296) : a.bmod 4294967296 = a ∨ (a < -2147483648 ∧ a.bmod 4294967296 = a + 4294967296) ∨ (2147483647 < a ∧ a.bmod 4294967296 = a - 4294967296) := by
  rcases (show a < (-2147483648) ∨ (-2147483648) ≤ a from by omega) with h | h
  · right; left
    refine ⟨h, ?_⟩
    have := Int.add_bmod_right a 4294967296
    rw [← this]
    exact Int.bmod_eq_of_le (by omega) (by omega)
  · rcases (show 2147483647 < a ∨ a ≤ 2147483647 from by omega) with g | g
    · right; right
      refine ⟨g, ?_⟩
      have := Int.add_bmod_right (a - 4294967296) 4294967296
      rw [show a - 4294967296 + ((4294967296 : Nat) : Int) = a by omega] at this
      rw [this]
      exact Int.bmod_eq_of_le (by omega) (by omega)
    · left
      exact Int.bmod_eq_of_le (by omega) (by omega)
theorem i_add {x y z : Int32} {a b : Int} (h : z = x + y) (hx : x.toInt = a) (hy : y.toInt = b) : (-2147483648 ≤ a ∧ a ≤ 2147483647 ∧ -2147483648 ≤ b ∧ b ≤ 2147483647) ∧ (z.toInt = a + b ∨ (a + b < -2147483648 ∧ z.toInt = a + b + 4294967296) ∨ (2147483647 < a + b ∧ z.toInt = a + b - 4294967296)) := by
  subst h hx hy
  have h1 := j32 x
  have h2 := j32 y
  rw [Int32.toInt_add]
  refine ⟨⟨h1.1, h1.2, h2.1, h2.2⟩, ?_⟩
  exact i_bm _ (by omega) (by omega)
theorem i_sub {x y z : Int32} {a b : Int} (h : z = x - y) (hx : x.toInt = a) (hy : y.toInt = b) : (-2147483648 ≤ a ∧ a ≤ 2147483647 ∧ -2147483648 ≤ b ∧ b ≤ 2147483647) ∧ (z.toInt = a - b ∨ (a - b < -2147483648 ∧ z.toInt = a - b + 4294967296) ∨ (2147483647 < a - b ∧ z.toInt = a - b - 4294967296)) := by
  subst h hx hy
  have h1 := j32 x
  have h2 := j32 y
  rw [Int32.toInt_sub]
  refine ⟨⟨h1.1, h1.2, h2.1, h2.2⟩, ?_⟩
  exact i_bm _ (by omega) (by omega)
theorem i_mul {x y z : Int32} {a b : Int} (h : z = x * y) (hx : x.toInt = a) (hy : y.toInt = b) : a * b < -2147483648 ∨ 2147483647 < a * b ∨ z.toInt = a * b := by
  subst h hx hy
  rcases (show (x.toInt * y.toInt) < (-2147483648) ∨ (-2147483648) ≤ (x.toInt * y.toInt) from by omega) with h | h1
  · exact Or.inl h
  rcases (show 2147483647 < (x.toInt * y.toInt) ∨ (x.toInt * y.toInt) ≤ 2147483647 from by omega) with h | h2
  · exact Or.inr (Or.inl h)
  right; right
  rw [Int32.toInt_mul]
  exact Int.bmod_eq_of_le (by omega) (by omega)
theorem i_div {x y z : Int32} {a b : Int} (h : z = x / y) (hx : x.toInt = a) (hy : y.toInt = b) (hb : 0 < b) : a < 0 ∨ z.toInt = a / b := by
  rcases (show a < 0 ∨ 0 ≤ a from by omega) with h0 | h1
  · exact Or.inl h0
  right
  subst h hx hy
  have h2 := j32 x
  have h3 : 0 ≤ x.toInt / y.toInt := Int.ediv_nonneg h1 (by omega)
  have h4 : x.toInt / y.toInt ≤ x.toInt := Int.ediv_le_self _ h1
  rw [Int32.toInt_div, Int.tdiv_eq_ediv_of_nonneg h1]
  exact Int.bmod_eq_of_le (by omega) (by omega)
theorem i_rem {x y z : Int32} {a b : Int} (h : z = x - x / y * y) (hx : x.toInt = a) (hy : y.toInt = b) (hb : 0 < b) : a < 0 ∨ z.toInt = a % b := by
  rcases (show a < 0 ∨ 0 ≤ a from by omega) with h0 | h1
  · exact Or.inl h0
  right
  have h5 : (x / y).toInt = a / b := (i_div (z := x / y) rfl hx hy hb).resolve_left (by omega)
  subst h hx hy
  have h2 := j32 x
  have h6 : 0 ≤ x.toInt % y.toInt := Int.emod_nonneg _ (by omega)
  have h8 : x.toInt % y.toInt + y.toInt * (x.toInt / y.toInt) = x.toInt := Int.emod_add_mul_ediv _ _
  have h9 : 0 ≤ y.toInt * (x.toInt / y.toInt) := Int.mul_nonneg (by omega) (Int.ediv_nonneg h1 (by omega))
  have h10 : x.toInt / y.toInt * y.toInt = y.toInt * (x.toInt / y.toInt) := Int.mul_comm _ _
  have h11 : (x.toInt / y.toInt * y.toInt).bmod 4294967296 = y.toInt * (x.toInt / y.toInt) := by
    rw [h10]
    exact Int.bmod_eq_of_le (by omega) (by omega)
  rw [Int32.toInt_sub, Int32.toInt_mul, h5]
  show (x.toInt - (x.toInt / y.toInt * y.toInt).bmod 4294967296).bmod 4294967296 = _
  rw [h11, show x.toInt - y.toInt * (x.toInt / y.toInt) = x.toInt % y.toInt by omega]
  exact Int.bmod_eq_of_le (by omega) (by omega)
theorem i_neg {x z : Int32} {a : Int} (h : z = -x) (hx : x.toInt = a) : z.toInt = -a ∨ (a = -2147483648 ∧ z.toInt = -2147483648) := by
  subst h hx
  have h1 := j32 x
  rw [Int32.toInt_neg]
  show (-x.toInt).bmod 4294967296 = -x.toInt ∨ (x.toInt = -2147483648 ∧ (-x.toInt).bmod 4294967296 = -2147483648)
  rcases i_bm (-x.toInt) (by omega) (by omega) with h | h | h
  · exact Or.inl h
  · omega
  · right; omega
theorem gh_fld {p : xH} (h : GH jGG p) {r t k : Nat} {fs : List (Value ⊕ (Int × Int))} {b : Int × Int} (hg : jgc jGG r = some (t, .inl fs)) (hf : fs[k]? = some (.inr b)) : b.1 ≤ (rI p r k).toInt ∧ (rI p r k).toInt ≤ b.2 := by
  obtain ⟨⟨t', vs⟩, h1, h2, h3, h4⟩ := h r _ hg
  obtain ⟨v, e1, e2⟩ := h4 k _ hf
  have e2 : jI 0 b.1 b.2 v := e2
  obtain ⟨x, rfl, x1, x2⟩ := e2.int
  have e3 : rV p r k = .int x := rV_at h1 e1
  unfold rI
  rw [e3]
  exact ⟨x1, x2⟩
theorem gh_row {p : xH} (h : GH jGG p) {r t k : Nat} {b : Nat × Int × Int} (hg : jgc jGG r = some (t, .inr b)) (ht : t ≠ 102) (hk : k < b.1) : b.2.1 ≤ (rI p r k).toInt ∧ (rI p r k).toInt ≤ b.2.2 := by
  obtain ⟨⟨t', vs⟩, h1, h2, h3, h4⟩ := h r _ hg
  have h3 : vs.length = b.1 := h3
  have hk2 : k < vs.length := by omega
  have e1 : vs[k]? = some vs[k] := List.getElem?_eq_getElem hk2
  have e2 := h4 vs[k] (List.getElem_mem hk2)
  have e2 : jI (if t = 102 then 1 else 0) b.2.1 b.2.2 vs[k] := e2
  rw [if_neg ht] at e2
  obtain ⟨x, hx, x1, x2⟩ := e2.int
  have e3 : rV p r k = .int x := by rw [← hx]; exact rV_at h1 e1
  unfold rI
  rw [e3]
  exact ⟨x1, x2⟩
