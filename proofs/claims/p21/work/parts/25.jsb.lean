noncomputable section
/-! the bounded machine is sound: operations, cuts, branches -/
theorem jbif2 {α : Type} {b : Bool} {v w : α} (h : (bif b then none else some v) = some w) : b = false ∧ v = w := by
  cases b with
  | true => cases h
  | false => exact ⟨rfl, Option.some.inj h⟩
theorem jrem_ok {x y : Int32} (hx : 0 ≤ x.toInt) (hy : 0 < y.toInt) : 0 ≤ (x - x / y * y).toInt ∧ (x - x / y * y).toInt ≤ x.toInt ∧ (x - x / y * y).toInt ≤ y.toInt - 1 := by
  have hxd : (x / y).toInt = x.toInt.tdiv y.toInt := Int32.toInt_div_of_ne_right x y (fun e => by rw [e] at hy; revert hy; decide)
  have hq0 : 0 ≤ x.toInt.tdiv y.toInt := Int.tdiv_nonneg hx (Int.le_of_lt hy)
  have e0 := Int.tmod_add_mul_tdiv x.toInt y.toInt
  rw [Int.mul_comm] at e0
  have m0 := Int.tmod_nonneg y.toInt hx
  have m1 := Int.tmod_lt_of_pos x.toInt hy
  have hm0 : 0 ≤ x.toInt.tdiv y.toInt * y.toInt := Int.mul_nonneg hq0 (Int.le_of_lt hy)
  have hxl := Int32.toInt_lt x
  have e1 : (x / y * y).toInt = x.toInt.tdiv y.toInt * y.toInt := by
    rw [Int32.toInt_mul, hxd]
    exact Int.bmod_eq_of_le (by omega) (by omega)
  have e2 : (x - x / y * y).toInt = x.toInt - x.toInt.tdiv y.toInt * y.toInt := by
    rw [Int32.toInt_sub, e1]
    exact Int.bmod_eq_of_le (by omega) (by omega)
  rw [e2]
  omega
theorem jlg (u w : Int64) : (u.toInt < w.toInt → lg_cmp u w = -1) ∧ (w.toInt < u.toInt → lg_cmp u w = 1) ∧ (u.toInt = w.toInt → lg_cmp u w = 0) := by
  refine ⟨fun z => ?_, fun z => ?_, fun z => ?_⟩
  · unfold lg_cmp
    rw [if_neg (fun z2 : u > w => by have := Int64.lt_iff_toInt_lt.mp z2; omega), if_neg (fun z2 : u = w => by subst z2; omega)]
  · unfold lg_cmp
    rw [if_pos (Int64.lt_iff_toInt_lt.mpr z)]
  · have e : u = w := Int64.toInt_inj.mp z
    subst e
    unfold lg_cmp
    rw [if_neg (fun z2 : u > u => by have := Int64.lt_iff_toInt_lt.mp z2; omega), if_pos rfl]
theorem jc3 {a b c d : Int} {x y : Int} {z : Int32} (h1 : x < y → z = -1) (h2 : y < x → z = 1) (h3 : x = y → z = 0) (x1 : a ≤ x) (x2 : x ≤ b) (y1 : c ≤ y) (y2 : y ≤ d) :
    jI 0 (bif decide (b < c) then ((-1 : Int), (-1 : Int)) else bif decide (d < a) then (1, 1) else (-1, 1)).1 (bif decide (b < c) then ((-1 : Int), (-1 : Int)) else bif decide (d < a) then (1, 1) else (-1, 1)).2 (.int z) := by
  cases q1 : decide (b < c) with
  | true => have := of_decide_eq_true q1; rw [h1 (by omega)]; exact ⟨rfl, Int.le_refl _, Int.le_refl _⟩
  | false =>
    cases q2 : decide (d < a) with
    | true => have := of_decide_eq_true q2; rw [h2 (by omega)]; exact ⟨rfl, by decide, by decide⟩
    | false =>
      rcases Int.lt_trichotomy x y with g | g | g
      · rw [h1 g]; exact ⟨rfl, by decide, by decide⟩
      · rw [h3 g]; exact ⟨rfl, by decide, by decide⟩
      · rw [h2 g]; exact ⟨rfl, by decide, by decide⟩
theorem jic (x y : Int32) : (x.toInt < y.toInt → (if x < y then (-1 : Int32) else if x = y then 0 else 1) = -1) ∧ (y.toInt < x.toInt → (if x < y then (-1 : Int32) else if x = y then 0 else 1) = 1) ∧ (x.toInt = y.toInt → (if x < y then (-1 : Int32) else if x = y then 0 else 1) = 0) := by
  refine ⟨fun z => ?_, fun z => ?_, fun z => ?_⟩
  · rw [if_pos (Int32.lt_iff_toInt_lt.mpr z)]
  · rw [if_neg (fun z2 => by have := Int32.lt_iff_toInt_lt.mp z2; omega), if_neg (fun z2 => by subst z2; omega)]
  · rw [if_neg (fun z2 => by have := Int32.lt_iff_toInt_lt.mp z2; omega), if_pos (Int32.toInt_inj.mp z)]
set_option maxHeartbeats 4000000 in
theorem jop_ok {o : Nat} {x y v : Value} {a b : Int × Int} (e : jop o x y = some v) (hx : jI (jkd o).1 a.1 a.2 x) (hy : jI (jkd o).2.1 b.1 b.2 y) : jI (jkd o).2.2 (jbn o a b).1 (jbn o a b).2 v := by
  unfold jop at e
  split at e
  next x y => cases e; exact jft_ok (Int32.toInt_add x y) (by have := hx.2.1; have := hy.2.1; show a.1 + b.1 ≤ x.toInt + y.toInt; exact Int.add_le_add hx.2.1 hy.2.1) (Int.add_le_add hx.2.2 hy.2.2)
  next x y => cases e; exact jft_ok (Int32.toInt_sub x y) (Int.sub_le_sub hx.2.1 hy.2.2) (Int.sub_le_sub hx.2.2 hy.2.1)
  next x y =>
    cases e
    show jI 0 (bif decide (0 ≤ a.1) && decide (0 ≤ b.1) then jft (a.1 * b.1) (a.2 * b.2) else jF).1 (bif decide (0 ≤ a.1) && decide (0 ≤ b.1) then jft (a.1 * b.1) (a.2 * b.2) else jF).2 _
    cases hb : (decide (0 ≤ a.1) && decide (0 ≤ b.1)) with
    | false => exact jF_ok _
    | true =>
      simp only [Bool.and_eq_true, decide_eq_true_eq] at hb
      have x1 : a.1 ≤ x.toInt := hx.2.1
      have x2 : x.toInt ≤ a.2 := hx.2.2
      have y1 : b.1 ≤ y.toInt := hy.2.1
      have y2 : y.toInt ≤ b.2 := hy.2.2
      exact jft_ok (Int32.toInt_mul x y) (Int.mul_le_mul x1 y1 hb.2 (by omega)) (Int.mul_le_mul x2 y2 (by omega) (by omega))
  next x y =>
    obtain ⟨hy0, e⟩ := jbif2 e
    cases e
    show jI 0 (bif decide (b.1 = b.2) && decide (0 < b.1) then (a.1.tdiv b.1, a.2.tdiv b.1) else jF).1 (bif decide (b.1 = b.2) && decide (0 < b.1) then (a.1.tdiv b.1, a.2.tdiv b.1) else jF).2 _
    cases hb : (decide (b.1 = b.2) && decide (0 < b.1)) with
    | false => exact jF_ok _
    | true =>
      simp only [Bool.and_eq_true, decide_eq_true_eq] at hb
      have x1 : a.1 ≤ x.toInt := hx.2.1
      have x2 : x.toInt ≤ a.2 := hx.2.2
      have y1 : b.1 ≤ y.toInt := hy.2.1
      have y2 : y.toInt ≤ b.2 := hy.2.2
      have ey : y.toInt = b.1 := by omega
      have hxd : (x / y).toInt = x.toInt.tdiv y.toInt := Int32.toInt_div_of_ne_right x y (fun e => by rw [e] at ey; have : (-1 : Int32).toInt = -1 := by decide
                                                                                                      omega)
      refine ⟨rfl, ?_, ?_⟩
      · show a.1.tdiv b.1 ≤ (x / y).toInt
        rw [hxd, ey]; exact Int.tdiv_le_tdiv hb.2 x1
      · show (x / y).toInt ≤ a.2.tdiv b.1
        rw [hxd, ey]; exact Int.tdiv_le_tdiv hb.2 x2
  next x y =>
    obtain ⟨hy0, e⟩ := jbif2 e
    cases e
    show jI 0 (bif decide (b.1 = b.2) && decide (0 < b.1) && decide (0 ≤ a.1) then (0, jmi a.2 (b.1 - 1)) else jF).1 (bif decide (b.1 = b.2) && decide (0 < b.1) && decide (0 ≤ a.1) then (0, jmi a.2 (b.1 - 1)) else jF).2 _
    cases hb : (decide (b.1 = b.2) && decide (0 < b.1) && decide (0 ≤ a.1)) with
    | false => exact jF_ok _
    | true =>
      simp only [Bool.and_eq_true, decide_eq_true_eq] at hb
      have x1 : a.1 ≤ x.toInt := hx.2.1
      have x2 : x.toInt ≤ a.2 := hx.2.2
      have y1 : b.1 ≤ y.toInt := hy.2.1
      have y2 : y.toInt ≤ b.2 := hy.2.2
      obtain ⟨r1, r2, r3⟩ := jrem_ok (x := x) (y := y) (by omega) (by omega)
      exact ⟨rfl, r1, jmi_le _ _ _ (Int.le_trans r2 x2) (by show (x - x / y * y).toInt ≤ b.1 - 1; omega)⟩
  next x y =>
    cases e
    have x1 : a.1 ≤ x.toInt := hx.2.1
    have x2 : x.toInt ≤ a.2 := hx.2.2
    have y1 : b.1 ≤ y.toInt := hy.2.1
    have y2 : y.toInt ≤ b.2 := hy.2.2
    show jI 0 (bif decide (0 ≤ a.1) then (0, bif decide (0 ≤ b.1) then jmi a.2 b.2 else a.2) else bif decide (0 ≤ b.1) then (0, b.2) else jF).1 (bif decide (0 ≤ a.1) then (0, bif decide (0 ≤ b.1) then jmi a.2 b.2 else a.2) else bif decide (0 ≤ b.1) then (0, b.2) else jF).2 _
    cases ha : decide (0 ≤ a.1) with
    | true =>
      have ha := of_decide_eq_true ha
      obtain ⟨p1, p2⟩ := jand_1 (x := x) (y := y) (by omega)
      cases hb : decide (0 ≤ b.1) with
      | true =>
        have hb := of_decide_eq_true hb
        obtain ⟨p3, p4⟩ := jand_2 (x := x) (y := y) (by omega)
        exact ⟨rfl, p1, jmi_le _ _ _ (Int.le_trans p2 x2) (Int.le_trans p4 y2)⟩
      | false => exact ⟨rfl, p1, Int.le_trans p2 x2⟩
    | false =>
      cases hb : decide (0 ≤ b.1) with
      | true =>
        have hb := of_decide_eq_true hb
        obtain ⟨p3, p4⟩ := jand_2 (x := x) (y := y) (by omega)
        exact ⟨rfl, p3, Int.le_trans p4 y2⟩
      | false => exact jF_ok _
  next x y =>
    cases e
    have x1 : a.1 ≤ x.toInt := hx.2.1
    have x2 : x.toInt ≤ a.2 := hx.2.2
    have y1 : b.1 ≤ y.toInt := hy.2.1
    have y2 : y.toInt ≤ b.2 := hy.2.2
    show jI 0 (bif decide (0 ≤ a.1) && decide (0 ≤ b.1) then (match jpw (jma a.2 b.2) with | some m => (0, m) | none => jF) else jF).1 (bif decide (0 ≤ a.1) && decide (0 ≤ b.1) then (match jpw (jma a.2 b.2) with | some m => (0, m) | none => jF) else jF).2 _
    cases hb : (decide (0 ≤ a.1) && decide (0 ≤ b.1)) with
    | false => exact jF_ok _
    | true =>
      simp only [Bool.and_eq_true, decide_eq_true_eq] at hb
      cases hm : jpw (jma a.2 b.2) with
      | none => exact jF_ok _
      | some m =>
        obtain ⟨m1, k, m2, m3⟩ := jpw_ok hm
        have m4 := jma_1 a.2 b.2
        have m5 := jma_2 a.2 b.2
        obtain ⟨p1, p2⟩ := jor_ok (x := x) (y := y) m2 m3 (by omega) (by omega) (by omega) (by omega)
        exact ⟨rfl, p1, p2⟩
  next x y =>
    cases e
    have x1 : a.1 ≤ x.toInt := hx.2.1
    have x2 : x.toInt ≤ a.2 := hx.2.2
    have y1 : b.1 ≤ y.toInt := hy.2.1
    have y2 : y.toInt ≤ b.2 := hy.2.2
    show jI 0 (bif decide (0 ≤ a.1) && decide (0 ≤ b.1) then (match jpw (jma a.2 b.2) with | some m => (0, m) | none => jF) else jF).1 (bif decide (0 ≤ a.1) && decide (0 ≤ b.1) then (match jpw (jma a.2 b.2) with | some m => (0, m) | none => jF) else jF).2 _
    cases hb : (decide (0 ≤ a.1) && decide (0 ≤ b.1)) with
    | false => exact jF_ok _
    | true =>
      simp only [Bool.and_eq_true, decide_eq_true_eq] at hb
      cases hm : jpw (jma a.2 b.2) with
      | none => exact jF_ok _
      | some m =>
        obtain ⟨m1, k, m2, m3⟩ := jpw_ok hm
        have m4 := jma_1 a.2 b.2
        have m5 := jma_2 a.2 b.2
        obtain ⟨p1, p2⟩ := jxor_ok (x := x) (y := y) m2 m3 (by omega) (by omega) (by omega) (by omega)
        exact ⟨rfl, p1, p2⟩
  next x y =>
    cases e
    have x1 : a.1 ≤ x.toInt := hx.2.1
    have x2 : x.toInt ≤ a.2 := hx.2.2
    have y1 : b.1 ≤ y.toInt := hy.2.1
    have y2 : y.toInt ≤ b.2 := hy.2.2
    show jI 0 (bif decide (0 ≤ a.1) && decide (0 ≤ b.1) && decide (b.2 ≤ 30) && decide (a.2 * 2 ^ b.2.toNat ≤ 2147483647) then (a.1 * 2 ^ b.1.toNat, a.2 * 2 ^ b.2.toNat) else jF).1 (bif decide (0 ≤ a.1) && decide (0 ≤ b.1) && decide (b.2 ≤ 30) && decide (a.2 * 2 ^ b.2.toNat ≤ 2147483647) then (a.1 * 2 ^ b.1.toNat, a.2 * 2 ^ b.2.toNat) else jF).2 _
    cases hb : (decide (0 ≤ a.1) && decide (0 ≤ b.1) && decide (b.2 ≤ 30) && decide (a.2 * 2 ^ b.2.toNat ≤ 2147483647)) with
    | false => exact jF_ok _
    | true =>
      simp only [Bool.and_eq_true, decide_eq_true_eq] at hb
      obtain ⟨p1, p2⟩ := jshl_ok hb.1.1.1 hb.1.1.2 hb.1.2 hb.2 x1 x2 y1 y2
      exact ⟨rfl, p1, p2⟩
  next x y => cases e; exact jF_ok _
  next x y => cases e; exact jF_ok _
  next x y => cases e; exact jF_ok _
  next x y => cases e; exact ⟨rfl, by show a.1 ≤ x.toInt64.toInt; rw [Int32.toInt_toInt64]; exact hx.2.1, by show x.toInt64.toInt ≤ a.2; rw [Int32.toInt_toInt64]; exact hx.2.2⟩
  next x y =>
    cases e
    have x1 : a.1 ≤ x.toInt := hx.2.1
    have x2 : x.toInt ≤ a.2 := hx.2.2
    show jI 0 (bif decide (-2147483648 ≤ a.1) && decide (a.2 ≤ 2147483647) then a else jF).1 (bif decide (-2147483648 ≤ a.1) && decide (a.2 ≤ 2147483647) then a else jF).2 _
    cases hb : (decide (-2147483648 ≤ a.1) && decide (a.2 ≤ 2147483647)) with
    | false => exact jF_ok _
    | true =>
      simp only [Bool.and_eq_true, decide_eq_true_eq] at hb
      have e1 : x.toInt32.toInt = x.toInt := by rw [Int64.toInt_toInt32]; exact Int.bmod_eq_of_le (by omega) (by omega)
      exact ⟨rfl, by show a.1 ≤ x.toInt32.toInt; omega, by show x.toInt32.toInt ≤ a.2; omega⟩
  next x y => cases e; exact jF_ok _
  next x y => cases e; exact jF_ok _
  next x y => cases e; exact jc3 (jlg x y).1 (jlg x y).2.1 (jlg x y).2.2 hx.2.1 hx.2.2 hy.2.1 hy.2.2
  next x y => cases e; exact jF_ok _
  next x y =>
    cases e
    have x1 : a.1 ≤ x.toInt := hx.2.1
    have x2 : x.toInt ≤ a.2 := hx.2.2
    have y1 : b.1 ≤ y.toInt := hy.2.1
    have y2 : y.toInt ≤ b.2 := hy.2.2
    refine ⟨rfl, ?_, ?_⟩
    · show jmi a.1 b.1 ≤ (if y < x then y else x).toInt
      split
      · exact Int.le_trans (jmi_2 _ _) y1
      · exact Int.le_trans (jmi_1 _ _) x1
    · show (if y < x then y else x).toInt ≤ jmi a.2 b.2
      split
      next h => have := Int32.lt_iff_toInt_lt.mp h; exact jmi_le _ _ _ (by omega) y2
      next h => have : ¬ y.toInt < x.toInt := fun h2 => h (Int32.lt_iff_toInt_lt.mpr h2); exact jmi_le _ _ _ x2 (by omega)
  next x y => cases e; exact jc3 (jic x y).1 (jic x y).2.1 (jic x y).2.2 hx.2.1 hx.2.2 hy.2.1 hy.2.2
  next => cases e
theorem jop_ex {x y : Value} : ∀ {o : Nat}, jvo o = true → jk x = (jkd o).1 → jk y = (jkd o).2.1 → ((Nat.beq o 4 || Nat.beq o 5) = true → jz y ≠ 0) → ∃ v, jop o x y = some v
  | 1, _, hx, hy, hz => by
    obtain ⟨x, rfl, -⟩ := (show jI 0 (jz x) (jz x) x from ⟨hx, Int.le_refl _, Int.le_refl _⟩).int
    obtain ⟨y, rfl, -⟩ := (show jI 0 (jz y) (jz y) y from ⟨hy, Int.le_refl _, Int.le_refl _⟩).int
    exact ⟨_, rfl⟩
  | 2, _, hx, hy, hz => by
    obtain ⟨x, rfl, -⟩ := (show jI 0 (jz x) (jz x) x from ⟨hx, Int.le_refl _, Int.le_refl _⟩).int
    obtain ⟨y, rfl, -⟩ := (show jI 0 (jz y) (jz y) y from ⟨hy, Int.le_refl _, Int.le_refl _⟩).int
    exact ⟨_, rfl⟩
  | 3, _, hx, hy, hz => by
    obtain ⟨x, rfl, -⟩ := (show jI 0 (jz x) (jz x) x from ⟨hx, Int.le_refl _, Int.le_refl _⟩).int
    obtain ⟨y, rfl, -⟩ := (show jI 0 (jz y) (jz y) y from ⟨hy, Int.le_refl _, Int.le_refl _⟩).int
    exact ⟨_, rfl⟩
  | 4, _, hx, hy, hz => by
    obtain ⟨x, rfl, -⟩ := (show jI 0 (jz x) (jz x) x from ⟨hx, Int.le_refl _, Int.le_refl _⟩).int
    obtain ⟨y, rfl, -⟩ := (show jI 0 (jz y) (jz y) y from ⟨hy, Int.le_refl _, Int.le_refl _⟩).int
    exact ⟨_, by show (bif decide (y = 0) then none else _) = _; rw [show decide (y = 0) = false from decide_eq_false (fun e => hz (by decide) (by rw [e]; rfl))]; rfl⟩
  | 5, _, hx, hy, hz => by
    obtain ⟨x, rfl, -⟩ := (show jI 0 (jz x) (jz x) x from ⟨hx, Int.le_refl _, Int.le_refl _⟩).int
    obtain ⟨y, rfl, -⟩ := (show jI 0 (jz y) (jz y) y from ⟨hy, Int.le_refl _, Int.le_refl _⟩).int
    exact ⟨_, by show (bif decide (y = 0) then none else _) = _; rw [show decide (y = 0) = false from decide_eq_false (fun e => hz (by decide) (by rw [e]; rfl))]; rfl⟩
  | 6, _, hx, hy, hz => by
    obtain ⟨x, rfl, -⟩ := (show jI 0 (jz x) (jz x) x from ⟨hx, Int.le_refl _, Int.le_refl _⟩).int
    obtain ⟨y, rfl, -⟩ := (show jI 0 (jz y) (jz y) y from ⟨hy, Int.le_refl _, Int.le_refl _⟩).int
    exact ⟨_, rfl⟩
  | 7, _, hx, hy, hz => by
    obtain ⟨x, rfl, -⟩ := (show jI 0 (jz x) (jz x) x from ⟨hx, Int.le_refl _, Int.le_refl _⟩).int
    obtain ⟨y, rfl, -⟩ := (show jI 0 (jz y) (jz y) y from ⟨hy, Int.le_refl _, Int.le_refl _⟩).int
    exact ⟨_, rfl⟩
  | 8, _, hx, hy, hz => by
    obtain ⟨x, rfl, -⟩ := (show jI 0 (jz x) (jz x) x from ⟨hx, Int.le_refl _, Int.le_refl _⟩).int
    obtain ⟨y, rfl, -⟩ := (show jI 0 (jz y) (jz y) y from ⟨hy, Int.le_refl _, Int.le_refl _⟩).int
    exact ⟨_, rfl⟩
  | 9, _, hx, hy, hz => by
    obtain ⟨x, rfl, -⟩ := (show jI 0 (jz x) (jz x) x from ⟨hx, Int.le_refl _, Int.le_refl _⟩).int
    obtain ⟨y, rfl, -⟩ := (show jI 0 (jz y) (jz y) y from ⟨hy, Int.le_refl _, Int.le_refl _⟩).int
    exact ⟨_, rfl⟩
  | 10, _, hx, hy, hz => by
    obtain ⟨x, rfl, -⟩ := (show jI 0 (jz x) (jz x) x from ⟨hx, Int.le_refl _, Int.le_refl _⟩).int
    obtain ⟨y, rfl, -⟩ := (show jI 0 (jz y) (jz y) y from ⟨hy, Int.le_refl _, Int.le_refl _⟩).int
    exact ⟨_, rfl⟩
  | 11, _, hx, hy, hz => by
    obtain ⟨x, rfl, -⟩ := (show jI 0 (jz x) (jz x) x from ⟨hx, Int.le_refl _, Int.le_refl _⟩).int
    obtain ⟨y, rfl, -⟩ := (show jI 0 (jz y) (jz y) y from ⟨hy, Int.le_refl _, Int.le_refl _⟩).int
    exact ⟨_, rfl⟩
  | 12, _, hx, hy, hz => by
    obtain ⟨x, rfl, -⟩ := (show jI 0 (jz x) (jz x) x from ⟨hx, Int.le_refl _, Int.le_refl _⟩).int
    obtain ⟨y, rfl, -⟩ := (show jI 0 (jz y) (jz y) y from ⟨hy, Int.le_refl _, Int.le_refl _⟩).int
    exact ⟨_, rfl⟩
  | 13, _, hx, hy, hz => by
    obtain ⟨x, rfl, -⟩ := (show jI 0 (jz x) (jz x) x from ⟨hx, Int.le_refl _, Int.le_refl _⟩).int
    obtain ⟨y, rfl, -⟩ := (show jI 0 (jz y) (jz y) y from ⟨hy, Int.le_refl _, Int.le_refl _⟩).int
    exact ⟨_, rfl⟩
  | 14, _, hx, hy, hz => by
    obtain ⟨x, rfl, -⟩ := (show jI 1 (jz x) (jz x) x from ⟨hx, Int.le_refl _, Int.le_refl _⟩).long
    obtain ⟨y, rfl, -⟩ := (show jI 0 (jz y) (jz y) y from ⟨hy, Int.le_refl _, Int.le_refl _⟩).int
    exact ⟨_, rfl⟩
  | 15, _, hx, hy, hz => by
    obtain ⟨x, rfl, -⟩ := (show jI 0 (jz x) (jz x) x from ⟨hx, Int.le_refl _, Int.le_refl _⟩).int
    obtain ⟨y, rfl, -⟩ := (show jI 0 (jz y) (jz y) y from ⟨hy, Int.le_refl _, Int.le_refl _⟩).int
    exact ⟨_, rfl⟩
  | 16, _, hx, hy, hz => by
    obtain ⟨x, rfl, -⟩ := (show jI 0 (jz x) (jz x) x from ⟨hx, Int.le_refl _, Int.le_refl _⟩).int
    obtain ⟨y, rfl, -⟩ := (show jI 0 (jz y) (jz y) y from ⟨hy, Int.le_refl _, Int.le_refl _⟩).int
    exact ⟨_, rfl⟩
  | 17, _, hx, hy, hz => by
    obtain ⟨x, rfl, -⟩ := (show jI 1 (jz x) (jz x) x from ⟨hx, Int.le_refl _, Int.le_refl _⟩).long
    obtain ⟨y, rfl, -⟩ := (show jI 1 (jz y) (jz y) y from ⟨hy, Int.le_refl _, Int.le_refl _⟩).long
    exact ⟨_, rfl⟩
  | 21, _, hx, hy, hz => by
    obtain ⟨x, rfl, -⟩ := (show jI 0 (jz x) (jz x) x from ⟨hx, Int.le_refl _, Int.le_refl _⟩).int
    obtain ⟨y, rfl, -⟩ := (show jI 0 (jz y) (jz y) y from ⟨hy, Int.le_refl _, Int.le_refl _⟩).int
    exact ⟨_, rfl⟩
  | 22, _, hx, hy, hz => by
    obtain ⟨x, rfl, -⟩ := (show jI 0 (jz x) (jz x) x from ⟨hx, Int.le_refl _, Int.le_refl _⟩).int
    obtain ⟨y, rfl, -⟩ := (show jI 0 (jz y) (jz y) y from ⟨hy, Int.le_refl _, Int.le_refl _⟩).int
    exact ⟨_, rfl⟩
  | 23, _, hx, hy, hz => by
    obtain ⟨x, rfl, -⟩ := (show jI 0 (jz x) (jz x) x from ⟨hx, Int.le_refl _, Int.le_refl _⟩).int
    obtain ⟨y, rfl, -⟩ := (show jI 0 (jz y) (jz y) y from ⟨hy, Int.le_refl _, Int.le_refl _⟩).int
    exact ⟨_, rfl⟩
  | 0, h, _, _, _ => absurd h (by decide)
  | 18, h, _, _, _ => absurd h (by decide)
  | 19, h, _, _, _ => absurd h (by decide)
  | 20, h, _, _, _ => absurd h (by decide)
  | n + 24, h, _, _, _ => absurd (Nat.blt_eq.mp (show Nat.blt (n + 24) 24 = true from h)) (by omega)
/-! cuts -/
theorem jcr_ok {G : jGt} {r : jP} {g : jS} {p : xH} (h : jSt G r g p) {s : Nat} {q : jRow} {v : Value} {lo hi : Int} (e : xfd g.2.1 s = some q) (k : r[s]? = some (.inl v)) (h1 : lo ≤ jz v) (h2 : jz v ≤ hi) : jSt G r (jcr g s q lo hi) p := by
  obtain ⟨a1, a2, a3, a4, a5⟩ := h
  refine ⟨a1, fun x hx => ?_, a3, a4, a5⟩
  rcases List.mem_cons.mp hx with rfl | hx
  · obtain ⟨w, b1, b2, b3⟩ := jrow_of a2 e
    rw [b1] at k
    cases k
    exact ⟨_, b1, ⟨b2.1, jma_le _ _ _ b2.2.1 h1, jmi_le _ _ _ b2.2.2 h2⟩, b3⟩
  · exact a2 x hx
theorem jcut_ok {G : jGt} {r : jP} {p : xH} : ∀ (n : Nat) {g : jS} {a : jV} {lo hi : Int} {v : Value}, jSt G r g p → jR r a v → lo ≤ jz v → jz v ≤ hi → ∃ g', jcut n g a lo hi = some g' ∧ jSt G r g' p := by
  intro n
  induction n with
  | zero =>
    intro g a lo hi v h k h1 h2
    cases a with
    | inl w =>
      obtain rfl : v = w := k
      exact ⟨g, by unfold jcut; rw [decide_eq_true h1, decide_eq_true h2]; rfl, h⟩
    | inr s =>
      unfold jcut
      split
      next => exact ⟨g, rfl, h⟩
      next q e =>
        obtain ⟨w, b1, b2, b3⟩ := jrow_of h.2.1 e
        have k' : r[s]? = some (.inl v) := k
        rw [b1] at k'
        cases k'
        rw [decide_eq_false (fun z => by have := jma_le _ _ _ b2.2.1 h1; have := jmi_le _ _ _ b2.2.2 h2; omega), cond_false]
        cases hb : (decide (lo ≤ q.2.1) && decide (q.2.2.1 ≤ hi)) with
        | true => exact ⟨g, rfl, h⟩
        | false => exact ⟨_, rfl, jcr_ok h e b1 h1 h2⟩
  | succ n ih =>
    intro g a lo hi v h k h1 h2
    cases a with
    | inl w =>
      obtain rfl : v = w := k
      exact ⟨g, by unfold jcut; rw [decide_eq_true h1, decide_eq_true h2]; rfl, h⟩
    | inr s =>
      unfold jcut
      split
      next => exact ⟨g, rfl, h⟩
      next q e =>
        obtain ⟨w, b1, b2, b3⟩ := jrow_of h.2.1 e
        have k' : r[s]? = some (.inl v) := k
        rw [b1] at k'
        cases k'
        have c1 := jma_le _ _ _ b2.2.1 h1
        have c2 := jmi_le _ _ _ b2.2.2 h2
        rw [decide_eq_false (fun z => by omega), cond_false]
        have hj := jcr_ok h e b1 h1 h2
        cases hb : (decide (lo ≤ q.2.1) && decide (q.2.2.1 ≤ hi)) with
        | true => exact ⟨g, rfl, h⟩
        | false =>
          rw [cond_false]
          split
          next a b hd =>
            rw [hd] at b3
            obtain ⟨x, y, d1, d2, -, d4⟩ := b3
            obtain ⟨d5, d6, d7⟩ := d4 (fun z => by cases z)
            obtain ⟨x, rfl, -⟩ := (show jI 0 (jz x) (jz x) x from ⟨d6, Int.le_refl _, Int.le_refl _⟩).int
            obtain ⟨y, rfl, -⟩ := (show jI 0 (jz y) (jz y) y from ⟨d7, Int.le_refl _, Int.le_refl _⟩).int
            have d5 : some (Value.long x.toInt64) = some v := d5
            cases d5
            have e1 : jz (.long x.toInt64) = jz (.int x) := Int32.toInt_toInt64 x
            exact ih hj d1 (by rw [← e1]; exact c1) (by rw [← e1]; exact c2)
          next a b hd =>
            rw [hd] at b3
            obtain ⟨x, y, d1, d2, -, d4⟩ := b3
            obtain ⟨d5, d6, d7⟩ := d4 (fun z => by cases z)
            split
            next t1 t2 ht1 ht2 =>
              have i1 := jbd_ok h.2.1 ht1 d1
              have i2 := jbd_ok h.2.1 ht2 d2
              obtain ⟨x, rfl, -⟩ := (show jI 0 (jz x) (jz x) x from ⟨d6, Int.le_refl _, Int.le_refl _⟩).int
              obtain ⟨y, rfl, -⟩ := (show jI 0 (jz y) (jz y) y from ⟨d7, Int.le_refl _, Int.le_refl _⟩).int
              have d5 : some (Value.int (x + y)) = some v := d5
              cases d5
              cases hq : (decide (-2147483648 ≤ t1.2.1 + t2.2.1) && decide (t1.2.2 + t2.2.2 ≤ 2147483647)) with
              | false => exact ⟨_, rfl, hj⟩
              | true =>
                simp only [Bool.and_eq_true, decide_eq_true_eq] at hq
                have x1 : t1.2.1 ≤ x.toInt := i1.2.1
                have x2 : x.toInt ≤ t1.2.2 := i1.2.2
                have y1 : t2.2.1 ≤ y.toInt := i2.2.1
                have y2 : y.toInt ≤ t2.2.2 := i2.2.2
                have e1 : (x + y).toInt = x.toInt + y.toInt := by rw [Int32.toInt_add]; exact Int.bmod_eq_of_le (by omega) (by omega)
                have c1 : jma q.2.1 lo ≤ (x + y).toInt := c1
                have c2 : (x + y).toInt ≤ jmi q.2.2.1 hi := c2
                obtain ⟨g1, f1, f2⟩ := ih (a := a) (lo := jma q.2.1 lo - t2.2.2) (hi := jmi q.2.2.1 hi - t2.2.1) hj d1 (by show _ ≤ x.toInt; omega) (by show x.toInt ≤ _; omega)
                obtain ⟨g2, f3, f4⟩ := ih (a := b) (lo := jma q.2.1 lo - t1.2.2) (hi := jmi q.2.2.1 hi - t1.2.1) f2 d2 (by show _ ≤ y.toInt; omega) (by show y.toInt ≤ _; omega)
                exact ⟨g2, by rw [cond_true, f1, Option.bind_some, f3], f4⟩
            next => exact ⟨_, rfl, hj⟩
          next a b hd =>
            rw [hd] at b3
            obtain ⟨x, y, d1, d2, -, d4⟩ := b3
            obtain ⟨d5, d6, d7⟩ := d4 (fun z => by cases z)
            split
            next t1 t2 ht1 ht2 =>
              have i1 := jbd_ok h.2.1 ht1 d1
              have i2 := jbd_ok h.2.1 ht2 d2
              obtain ⟨x, rfl, -⟩ := (show jI 0 (jz x) (jz x) x from ⟨d6, Int.le_refl _, Int.le_refl _⟩).int
              obtain ⟨y, rfl, -⟩ := (show jI 0 (jz y) (jz y) y from ⟨d7, Int.le_refl _, Int.le_refl _⟩).int
              have d5 : some (Value.int (x - y)) = some v := d5
              cases d5
              cases hq : (decide (-2147483648 ≤ t1.2.1 - t2.2.2) && decide (t1.2.2 - t2.2.1 ≤ 2147483647)) with
              | false => exact ⟨_, rfl, hj⟩
              | true =>
                simp only [Bool.and_eq_true, decide_eq_true_eq] at hq
                have x1 : t1.2.1 ≤ x.toInt := i1.2.1
                have x2 : x.toInt ≤ t1.2.2 := i1.2.2
                have y1 : t2.2.1 ≤ y.toInt := i2.2.1
                have y2 : y.toInt ≤ t2.2.2 := i2.2.2
                have e1 : (x - y).toInt = x.toInt - y.toInt := by rw [Int32.toInt_sub]; exact Int.bmod_eq_of_le (by omega) (by omega)
                have c1 : jma q.2.1 lo ≤ (x - y).toInt := c1
                have c2 : (x - y).toInt ≤ jmi q.2.2.1 hi := c2
                obtain ⟨g1, f1, f2⟩ := ih (a := a) (lo := jma q.2.1 lo + t2.2.1) (hi := jmi q.2.2.1 hi + t2.2.2) hj d1 (by show _ ≤ x.toInt; omega) (by show x.toInt ≤ _; omega)
                obtain ⟨g2, f3, f4⟩ := ih (a := b) (lo := t1.2.1 - jmi q.2.2.1 hi) (hi := t1.2.2 - jma q.2.1 lo) f2 d2 (by show _ ≤ y.toInt; omega) (by show y.toInt ≤ _; omega)
                exact ⟨g2, by rw [cond_true, f1, Option.bind_some, f3], f4⟩
            next => exact ⟨_, rfl, hj⟩
          next => exact ⟨_, rfl, hj⟩
end
