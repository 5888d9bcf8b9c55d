/-! contracts of methods, walked -/
/-- told apart: at place j; the first -/
def hAp (A B : Nat → Int32) (j : Nat) : Prop := 0 ≤ (A j).toInt ∧ (A j).toInt ≠ (B j).toInt
def hFi (A B : Nat → Int32) (a : Nat) (r : Int) : Prop := (∃ m, a ≤ m ∧ m < 30 ∧ (∀ j, a ≤ j → j < m → ¬ hAp A B j) ∧ hAp A B m ∧ r = 10 * m + (A m).toInt) ∨ ((∀ j, a ≤ j → j < 30 → ¬ hAp A B j) ∧ r = -2)
theorem hFi_one {A B : Nat → Int32} {a : Nat} {r s : Int} (h : hFi A B a r) (k : hFi A B a s) : r = s := by
  rcases h with ⟨m, m1, m2, m3, m4, m5⟩ | ⟨h1, h2⟩
  · rcases k with ⟨i, i1, i2, i3, i4, i5⟩ | ⟨k1, k2⟩
    · rcases Nat.lt_trichotomy m i with z | z | z
      · exact absurd m4 (i3 m m1 z)
      · subst z; rw [m5, i5]
      · exact absurd i4 (m3 i i1 z)
    · exact absurd m4 (k1 m m1 m2)
  · rcases k with ⟨i, i1, i2, i3, i4, i5⟩ | ⟨k1, k2⟩
    · exact absurd i4 (h1 i i1 i2)
    · rw [h2, k2]
theorem hFi_hit {A B : Nat → Int32} {a : Nat} {r : Int} (h : hAp A B a) (h2 : a < 30) (e : r = 10 * a + (A a).toInt) : hFi A B a r := Or.inl ⟨a, Nat.le_refl _, h2, fun j h1 h3 => absurd h3 (by omega), h, e⟩
theorem hFi_miss {A B : Nat → Int32} {a : Nat} {r : Int} (h : ¬ hAp A B a) (k : hFi A B (a + 1) r) : hFi A B a r := by
  rcases k with ⟨m, m1, m2, m3, m4, m5⟩ | ⟨k1, k2⟩
  · refine Or.inl ⟨m, by omega, m2, fun j h1 h2 => ?_, m4, m5⟩
    by_cases z : j = a
    · rw [z]; exact h
    · exact m3 j (by omega) h2
  · refine Or.inr ⟨fun j h1 h2 => ?_, k2⟩
    by_cases z : j = a
    · rw [z]; exact h
    · exact k1 j (by omega) h2
theorem hFi_from {A B : Nat → Int32} : ∀ {k : Nat} {r : Int}, (∀ j, j < k → ¬ hAp A B j) → hFi A B k r → hFi A B 0 r
  | 0, _, _, h => h
  | k + 1, _, h, g => hFi_from (fun j hj => h j (by omega)) (hFi_miss (h k (by omega)) g)
/-- at how many of the first places they differ -/
def hDf (A B : Nat → Int32) : Nat → Int
  | 0 => 0
  | k + 1 => hDf A B k + (if (A k).toInt = (B k).toInt then 0 else 1)
theorem hDf_b (A B : Nat → Int32) : ∀ k : Nat, 0 ≤ hDf A B k ∧ hDf A B k ≤ k
  | 0 => ⟨Int.le_refl _, Int.le_refl _⟩
  | k + 1 => by
    have h := hDf_b A B k
    show 0 ≤ hDf A B k + _ ∧ hDf A B k + _ ≤ _
    by_cases z : (A k).toInt = (B k).toInt
    · rw [if_pos z]; push_cast; omega
    · rw [if_neg z]; push_cast; omega
theorem hDf_s {A B : Nat → Int32} {k : Nat} : hDf A B (k + 1) = hDf A B k + (if (A k).toInt = (B k).toInt then 0 else 1) := rfl
theorem s_toldStreet {ro : List (List Int32)} {n d : Nat} {p : xH} {Q : Option Value → xH → Prop} {x : Int32} {xi : Int} {m : Int32} {mi : Int} (hx : x.toInt = xi) (hm : m.toInt = mi) (pre0 : 0 ≤ xi) (pre1 : xi < 7) (pre2 : 0 ≤ mi) (pre3 : mi < 30) (k0 : ∀ z : Int32, (z = rI p 3 (30 * xi.toNat + mi.toNat)) → Q (some (.int z)) p) : hP ro n d (5, 3, 1, 1, k62) 0 (lv_args 0 [.ref 1, .int x, .int m]) [] p Q := by
  subst hx
  subst hm
  refine hp_id (ls := [(0, .ref 1), (1, .int x), (2, .int m)]) ?_
  refine hp_s (pc' := 1) (st' := [.ref 1]) rfl rfl rfl ?_
  refine hp_getr (k := 1) (w := .ref 3) (pc' := 4) rfl rfl rfl rfl rfl ?_
  refine hp_s (pc' := 5) (st' := [.int x, .ref 3]) rfl rfl rfl ?_
  refine hp_s (pc' := 7) (st' := [.int 30, .int x, .ref 3]) rfl rfl rfl ?_
  refine hp_z (pc' := 8) (e := x * 30) (st' := [.ref 3]) rfl rfl rfl ?_
  intro z1 hz1
  have ez1 := i_mul hz1 (show x.toInt = x.toInt from rfl) (show (30 : Int32).toInt = 30 from by decide)
  refine hp_s (pc' := 9) (st' := [.int m, .int z1, .ref 3]) rfl rfl rfl ?_
  refine hp_z (pc' := 10) (e := z1 + m) (st' := [.ref 3]) rfl rfl rfl ?_
  intro z2 hz2
  have ez2 := i_add hz2 (show z1.toInt = z1.toInt from rfl) (show m.toInt = m.toInt from rfl)
  refine hp_ld (t := 100) (v := (rI p 3 z2.toInt.toNat)) rfl (.inl rfl) rfl rfl rfl ?_
  intro (g1a : 0 ≤ z2.toInt) (g1b : z2.toInt < 210)
  refine hp_ri rfl rfl ?_
  first | (exact k0 _ (by first | assumption | omega | (congr 1; omega))) | (exfalso; omega)
theorem lp_63b {ro : List (List Int32)} {d : Nat} {Q : Option Value → xH → Prop} {x y : Int32} {p : xH} (x0 : 0 ≤ x.toInt) (x7 : x.toInt < 7) (y0 : 0 ≤ y.toInt) (y7 : y.toInt < 7) (hlo : ∀ j, -1 ≤ (rI p 3 j).toInt ∧ (rI p 3 j).toInt ≤ 4) (K : ∀ z : Int32, hFi (fun j => rI p 3 (30 * x.toInt.toNat + j)) (fun j => rI p 3 (30 * y.toInt.toNat + j)) 0 z.toInt → Q (some (.int z)) p) : ∀ (n : Nat) (k : Int32) (t : Int32), (0 ≤ k.toInt) → (k.toInt ≤ 30) → (∀ j, j < k.toInt.toNat → ¬ hAp (fun j => rI p 3 (30 * x.toInt.toNat + j)) (fun j => rI p 3 (30 * y.toInt.toNat + j)) j) → hP ro n d (5, 5, 1, 1, k63) 2 [(3, .int k), (4, .int t), (0, .ref 1), (1, .int x), (2, .int y)] [] p Q := by
  intro n
  induction n with
  | zero => intros; exact hp_0
  | succ n ih =>
    intro k t h1 h2 hm
    have lo1 := hlo (30 * x.toInt.toNat + k.toInt.toNat)
    refine hp_s1 (pc' := 3) (st' := [.int k]) rfl rfl rfl ?_
    refine hp_s (pc' := 5) (st' := [.int 30, .int k]) rfl rfl rfl ?_
    refine hp_ic (pc' := 8) (t := 47) (a := k.toInt) (b := 30) rfl rfl rfl rfl (by decide) (fun (h1 : 30 ≤ k.toInt) => ?_) (fun (h2 : ¬ (30 ≤ k.toInt)) => ?_)
    ·
      refine hp_s (pc' := 49) (st' := [.int (-2)]) rfl rfl rfl ?_
      refine hp_ri rfl rfl ?_
      exact K _ (hFi_from (k := 30) (fun j hj => hm j (by omega)) (Or.inr ⟨fun j h1 h2 => absurd h1 (by omega), by decide⟩))
    ·
      refine hp_s (pc' := 9) (st' := [.ref 1]) rfl rfl rfl ?_
      refine hp_s (pc' := 10) (st' := [.int x, .ref 1]) rfl rfl rfl ?_
      refine hp_s (pc' := 11) (st' := [.int k, .int x, .ref 1]) rfl rfl rfl ?_
      refine hp_cv (r := 1) (o := 5) (kd := 1) (as := [.int x, .int k]) (rest := []) (pc' := 14) rfl rfl rfl rfl rfl rfl rfl rfl rfl (fun d1 => ?_)
      refine s_toldStreet (xi := x.toInt) rfl (mi := k.toInt) rfl (by first | assumption | omega) (by first | assumption | omega) (by first | assumption | omega) (by first | assumption | omega) ?_
      intro y1 h3
      have ey1 : y1.toInt = (rI p 3 (30 * x.toInt.toNat + k.toInt.toNat)).toInt := by rw [h3]
      refine hp_id (st := [.int y1]) ?_
      refine hp_s (pc' := 16) (ls' := [(4, .int y1), (3, .int k), (0, .ref 1), (1, .int x), (2, .int y)]) (st' := []) rfl rfl rfl ?_
      refine hp_s (pc' := 18) (st' := [.int y1]) rfl rfl rfl ?_
      refine hp_s (pc' := 19) (st' := [.int (-1), .int y1]) rfl rfl rfl ?_
      refine hp_ic (pc' := 22) (t := 41) (a := y1.toInt) (b := (-1)) rfl rfl rfl rfl (by decide) (fun (h4 : y1.toInt = (-1)) => ?_) (fun (h5 : ¬ (y1.toInt = (-1))) => ?_)
      ·
        refine hp_inc (L := fun z => [(3, .int z), (4, .int y1), (0, .ref 1), (1, .int x), (2, .int y)]) (pc' := 44) rfl rfl rfl (fun _ => rfl) rfl ?_
        intro z1 hz1
        have ez1 := i_add hz1 (show k.toInt = k.toInt from rfl) (show (Int32.ofInt 1).toInt = 1 from by decide)
        refine hp_go (pc' := 2) rfl rfl rfl ?_
        refine ih _ y1 (by omega) (by omega) (fun j hj => ?_)
        by_cases g : j < k.toInt.toNat
        · exact hm j g
        · rw [show j = k.toInt.toNat by omega]
          intro hap
          have q1 : 0 ≤ (rI p 3 (30 * x.toInt.toNat + k.toInt.toNat)).toInt := hap.1
          have q2 : (rI p 3 (30 * x.toInt.toNat + k.toInt.toNat)).toInt ≠ (rI p 3 (30 * y.toInt.toNat + k.toInt.toNat)).toInt := hap.2
          omega
      ·
        refine hp_s (pc' := 24) (st' := [.int y1]) rfl rfl rfl ?_
        refine hp_s (pc' := 25) (st' := [.ref 1, .int y1]) rfl rfl rfl ?_
        refine hp_s (pc' := 26) (st' := [.int y, .ref 1, .int y1]) rfl rfl rfl ?_
        refine hp_s (pc' := 27) (st' := [.int k, .int y, .ref 1, .int y1]) rfl rfl rfl ?_
        refine hp_cv (r := 1) (o := 5) (kd := 1) (as := [.int y, .int k]) (rest := [.int y1]) (pc' := 30) rfl rfl rfl rfl rfl rfl rfl rfl rfl (fun d2 => ?_)
        refine s_toldStreet (xi := y.toInt) rfl (mi := k.toInt) rfl (by first | assumption | omega) (by first | assumption | omega) (by first | assumption | omega) (by first | assumption | omega) ?_
        intro y2 h6
        have ey2 : y2.toInt = (rI p 3 (30 * y.toInt.toNat + k.toInt.toNat)).toInt := by rw [h6]
        refine hp_id (st := [.int y2, .int y1]) ?_
        refine hp_ic (pc' := 33) (t := 41) (a := y1.toInt) (b := y2.toInt) rfl rfl rfl rfl rfl (fun (h7 : y1.toInt = y2.toInt) => ?_) (fun (h8 : ¬ (y1.toInt = y2.toInt)) => ?_)
        ·
          refine hp_inc (L := fun z => [(3, .int z), (4, .int y1), (0, .ref 1), (1, .int x), (2, .int y)]) (pc' := 44) rfl rfl rfl (fun _ => rfl) rfl ?_
          intro z2 hz2
          have ez2 := i_add hz2 (show k.toInt = k.toInt from rfl) (show (Int32.ofInt 1).toInt = 1 from by decide)
          refine hp_go (pc' := 2) rfl rfl rfl ?_
          refine ih _ y1 (by omega) (by omega) (fun j hj => ?_)
          by_cases g : j < k.toInt.toNat
          · exact hm j g
          · rw [show j = k.toInt.toNat by omega]
            intro hap
            have q1 : 0 ≤ (rI p 3 (30 * x.toInt.toNat + k.toInt.toNat)).toInt := hap.1
            have q2 : (rI p 3 (30 * x.toInt.toNat + k.toInt.toNat)).toInt ≠ (rI p 3 (30 * y.toInt.toNat + k.toInt.toNat)).toInt := hap.2
            omega
        ·
          refine hp_s (pc' := 35) (st' := [.int 10]) rfl rfl rfl ?_
          refine hp_s (pc' := 36) (st' := [.int k, .int 10]) rfl rfl rfl ?_
          refine hp_z (pc' := 37) (e := 10 * k) (st' := []) rfl rfl rfl ?_
          intro z3 hz3
          have ez3 := i_mul hz3 (show (10 : Int32).toInt = 10 from by decide) (show k.toInt = k.toInt from rfl)
          refine hp_s (pc' := 39) (st' := [.int y1, .int z3]) rfl rfl rfl ?_
          refine hp_z (pc' := 40) (e := z3 + y1) (st' := []) rfl rfl rfl ?_
          intro z4 hz4
          have ez4 := i_add hz4 (show z3.toInt = z3.toInt from rfl) (show y1.toInt = y1.toInt from rfl)
          refine hp_ri rfl rfl ?_
          exact K _ (hFi_from hm (hFi_hit (A := (fun j => rI p 3 (30 * x.toInt.toNat + j))) (B := (fun j => rI p 3 (30 * y.toInt.toNat + j))) ⟨by show 0 ≤ (rI p 3 (30 * x.toInt.toNat + k.toInt.toNat)).toInt; omega, by show (rI p 3 (30 * x.toInt.toNat + k.toInt.toNat)).toInt ≠ (rI p 3 (30 * y.toInt.toNat + k.toInt.toNat)).toInt; omega⟩ (by omega) (by show _ = 10 * ((k.toInt.toNat : Nat) : Int) + (rI p 3 (30 * x.toInt.toNat + k.toInt.toNat)).toInt; omega)))
theorem lp_63a {ro : List (List Int32)} {d : Nat} {Q : Option Value → xH → Prop} {x y : Int32} {p : xH} (x0 : 0 ≤ x.toInt) (x7 : x.toInt < 7) (y0 : 0 ≤ y.toInt) (y7 : y.toInt < 7) (hlo : ∀ j, -1 ≤ (rI p 3 j).toInt ∧ (rI p 3 j).toInt ≤ 4) (K : ∀ z : Int32, hFi (fun j => rI p 3 (30 * x.toInt.toNat + j)) (fun j => rI p 3 (30 * y.toInt.toNat + j)) 0 z.toInt → Q (some (.int z)) p) : ∀ (n : Nat) (k : Int32), (0 ≤ k.toInt) → (k.toInt ≤ 30) → (∀ j, j < k.toInt.toNat → ¬ hAp (fun j => rI p 3 (30 * x.toInt.toNat + j)) (fun j => rI p 3 (30 * y.toInt.toNat + j)) j) → hP ro n d (5, 5, 1, 1, k63) 2 [(3, .int k), (0, .ref 1), (1, .int x), (2, .int y)] [] p Q := by
  intro n
  intro k h1 h2 hm
  have lo1 := hlo (30 * x.toInt.toNat + k.toInt.toNat)
  refine hp_s (pc' := 3) (st' := [.int k]) rfl rfl rfl ?_
  refine hp_s (pc' := 5) (st' := [.int 30, .int k]) rfl rfl rfl ?_
  refine hp_ic (pc' := 8) (t := 47) (a := k.toInt) (b := 30) rfl rfl rfl rfl (by decide) (fun (h1 : 30 ≤ k.toInt) => ?_) (fun (h2 : ¬ (30 ≤ k.toInt)) => ?_)
  ·
    refine hp_s (pc' := 49) (st' := [.int (-2)]) rfl rfl rfl ?_
    refine hp_ri rfl rfl ?_
    exact K _ (hFi_from (k := 30) (fun j hj => hm j (by omega)) (Or.inr ⟨fun j h1 h2 => absurd h1 (by omega), by decide⟩))
  ·
    refine hp_s (pc' := 9) (st' := [.ref 1]) rfl rfl rfl ?_
    refine hp_s (pc' := 10) (st' := [.int x, .ref 1]) rfl rfl rfl ?_
    refine hp_s (pc' := 11) (st' := [.int k, .int x, .ref 1]) rfl rfl rfl ?_
    refine hp_cv (r := 1) (o := 5) (kd := 1) (as := [.int x, .int k]) (rest := []) (pc' := 14) rfl rfl rfl rfl rfl rfl rfl rfl rfl (fun d1 => ?_)
    refine s_toldStreet (xi := x.toInt) rfl (mi := k.toInt) rfl (by first | assumption | omega) (by first | assumption | omega) (by first | assumption | omega) (by first | assumption | omega) ?_
    intro y1 h3
    have ey1 : y1.toInt = (rI p 3 (30 * x.toInt.toNat + k.toInt.toNat)).toInt := by rw [h3]
    refine hp_id (st := [.int y1]) ?_
    refine hp_s (pc' := 16) (ls' := [(4, .int y1), (3, .int k), (0, .ref 1), (1, .int x), (2, .int y)]) (st' := []) rfl rfl rfl ?_
    refine hp_s (pc' := 18) (st' := [.int y1]) rfl rfl rfl ?_
    refine hp_s (pc' := 19) (st' := [.int (-1), .int y1]) rfl rfl rfl ?_
    refine hp_ic (pc' := 22) (t := 41) (a := y1.toInt) (b := (-1)) rfl rfl rfl rfl (by decide) (fun (h4 : y1.toInt = (-1)) => ?_) (fun (h5 : ¬ (y1.toInt = (-1))) => ?_)
    ·
      refine hp_inc (L := fun z => [(3, .int z), (4, .int y1), (0, .ref 1), (1, .int x), (2, .int y)]) (pc' := 44) rfl rfl rfl (fun _ => rfl) rfl ?_
      intro z1 hz1
      have ez1 := i_add hz1 (show k.toInt = k.toInt from rfl) (show (Int32.ofInt 1).toInt = 1 from by decide)
      refine hp_go (pc' := 2) rfl rfl rfl ?_
      refine lp_63b x0 x7 y0 y7 hlo K n _ y1 (by omega) (by omega) (fun j hj => ?_)
      by_cases g : j < k.toInt.toNat
      · exact hm j g
      · rw [show j = k.toInt.toNat by omega]
        intro hap
        have q1 : 0 ≤ (rI p 3 (30 * x.toInt.toNat + k.toInt.toNat)).toInt := hap.1
        have q2 : (rI p 3 (30 * x.toInt.toNat + k.toInt.toNat)).toInt ≠ (rI p 3 (30 * y.toInt.toNat + k.toInt.toNat)).toInt := hap.2
        omega
    ·
      refine hp_s (pc' := 24) (st' := [.int y1]) rfl rfl rfl ?_
      refine hp_s (pc' := 25) (st' := [.ref 1, .int y1]) rfl rfl rfl ?_
      refine hp_s (pc' := 26) (st' := [.int y, .ref 1, .int y1]) rfl rfl rfl ?_
      refine hp_s (pc' := 27) (st' := [.int k, .int y, .ref 1, .int y1]) rfl rfl rfl ?_
      refine hp_cv (r := 1) (o := 5) (kd := 1) (as := [.int y, .int k]) (rest := [.int y1]) (pc' := 30) rfl rfl rfl rfl rfl rfl rfl rfl rfl (fun d2 => ?_)
      refine s_toldStreet (xi := y.toInt) rfl (mi := k.toInt) rfl (by first | assumption | omega) (by first | assumption | omega) (by first | assumption | omega) (by first | assumption | omega) ?_
      intro y2 h6
      have ey2 : y2.toInt = (rI p 3 (30 * y.toInt.toNat + k.toInt.toNat)).toInt := by rw [h6]
      refine hp_id (st := [.int y2, .int y1]) ?_
      refine hp_ic (pc' := 33) (t := 41) (a := y1.toInt) (b := y2.toInt) rfl rfl rfl rfl rfl (fun (h7 : y1.toInt = y2.toInt) => ?_) (fun (h8 : ¬ (y1.toInt = y2.toInt)) => ?_)
      ·
        refine hp_inc (L := fun z => [(3, .int z), (4, .int y1), (0, .ref 1), (1, .int x), (2, .int y)]) (pc' := 44) rfl rfl rfl (fun _ => rfl) rfl ?_
        intro z2 hz2
        have ez2 := i_add hz2 (show k.toInt = k.toInt from rfl) (show (Int32.ofInt 1).toInt = 1 from by decide)
        refine hp_go (pc' := 2) rfl rfl rfl ?_
        refine lp_63b x0 x7 y0 y7 hlo K n _ y1 (by omega) (by omega) (fun j hj => ?_)
        by_cases g : j < k.toInt.toNat
        · exact hm j g
        · rw [show j = k.toInt.toNat by omega]
          intro hap
          have q1 : 0 ≤ (rI p 3 (30 * x.toInt.toNat + k.toInt.toNat)).toInt := hap.1
          have q2 : (rI p 3 (30 * x.toInt.toNat + k.toInt.toNat)).toInt ≠ (rI p 3 (30 * y.toInt.toNat + k.toInt.toNat)).toInt := hap.2
          omega
      ·
        refine hp_s (pc' := 35) (st' := [.int 10]) rfl rfl rfl ?_
        refine hp_s (pc' := 36) (st' := [.int k, .int 10]) rfl rfl rfl ?_
        refine hp_z (pc' := 37) (e := 10 * k) (st' := []) rfl rfl rfl ?_
        intro z3 hz3
        have ez3 := i_mul hz3 (show (10 : Int32).toInt = 10 from by decide) (show k.toInt = k.toInt from rfl)
        refine hp_s (pc' := 39) (st' := [.int y1, .int z3]) rfl rfl rfl ?_
        refine hp_z (pc' := 40) (e := z3 + y1) (st' := []) rfl rfl rfl ?_
        intro z4 hz4
        have ez4 := i_add hz4 (show z3.toInt = z3.toInt from rfl) (show y1.toInt = y1.toInt from rfl)
        refine hp_ri rfl rfl ?_
        exact K _ (hFi_from hm (hFi_hit (A := (fun j => rI p 3 (30 * x.toInt.toNat + j))) (B := (fun j => rI p 3 (30 * y.toInt.toNat + j))) ⟨by show 0 ≤ (rI p 3 (30 * x.toInt.toNat + k.toInt.toNat)).toInt; omega, by show (rI p 3 (30 * x.toInt.toNat + k.toInt.toNat)).toInt ≠ (rI p 3 (30 * y.toInt.toNat + k.toInt.toNat)).toInt; omega⟩ (by omega) (by show _ = 10 * ((k.toInt.toNat : Nat) : Int) + (rI p 3 (30 * x.toInt.toNat + k.toInt.toNat)).toInt; omega)))
theorem s_firstApart {ro : List (List Int32)} {n d : Nat} {p : xH} {Q : Option Value → xH → Prop} {x : Int32} {xi : Int} {y : Int32} {yi : Int} (hx : x.toInt = xi) (hy : y.toInt = yi) (pre0 : 0 ≤ xi) (pre1 : xi < 7) (pre2 : 0 ≤ yi) (pre3 : yi < 7) (pre4 : ∀ j, -1 ≤ (rI p 3 j).toInt ∧ (rI p 3 j).toInt ≤ 4) (k0 : ∀ z : Int32, (hFi (fun j => rI p 3 (30 * xi.toNat + j)) (fun j => rI p 3 (30 * yi.toNat + j)) 0 z.toInt) → Q (some (.int z)) p) : hP ro n d (5, 5, 1, 1, k63) 0 (lv_args 0 [.ref 1, .int x, .int y]) [] p Q := by
  subst hx
  subst hy
  refine hp_id (ls := [(0, .ref 1), (1, .int x), (2, .int y)]) ?_
  refine hp_s (pc' := 1) (st' := [.int 0]) rfl rfl rfl ?_
  refine hp_s (pc' := 2) (ls' := [(3, .int 0), (0, .ref 1), (1, .int x), (2, .int y)]) (st' := []) rfl rfl rfl ?_
  exact lp_63a (x := x) (y := y) (by omega) (by omega) (by omega) (by omega) pre4 (fun z h => k0 z h) n 0 (by decide) (by decide) (fun j hj => absurd hj (by have h00 : (0 : Int32).toInt = 0 := (by decide); omega))
theorem lp_64 {ro : List (List Int32)} {d : Nat} {Q : Option Value → xH → Prop} {x y : Int32} {p : xH} (x0 : 0 ≤ x.toInt) (x7 : x.toInt < 7) (y0 : 0 ≤ y.toInt) (y7 : y.toInt < 7) (K : ∀ z : Int32, z.toInt = hDf (fun j => rI p 3 (30 * x.toInt.toNat + j)) (fun j => rI p 3 (30 * y.toInt.toNat + j)) 30 → Q (some (.int z)) p) : ∀ (n : Nat) (k : Int32) (c : Int32), (0 ≤ k.toInt) → (k.toInt ≤ 30) → (c.toInt = hDf (fun j => rI p 3 (30 * x.toInt.toNat + j)) (fun j => rI p 3 (30 * y.toInt.toNat + j)) k.toInt.toNat) → hP ro n d (5, 5, 1, 1, k64) 5 [(4, .int k), (3, .int c), (0, .ref 1), (1, .int x), (2, .int y)] [] p Q := by
  intro n
  induction n with
  | zero => intros; exact hp_0
  | succ n ih =>
    intro k c h1 h2 hc
    have hb := hDf_b (fun j => rI p 3 (30 * x.toInt.toNat + j)) (fun j => rI p 3 (30 * y.toInt.toNat + j)) k.toInt.toNat
    refine hp_s1 (pc' := 7) (st' := [.int k]) rfl rfl rfl ?_
    refine hp_s (pc' := 9) (st' := [.int 30, .int k]) rfl rfl rfl ?_
    refine hp_ic (pc' := 12) (t := 38) (a := k.toInt) (b := 30) rfl rfl rfl rfl (by decide) (fun (h1 : 30 ≤ k.toInt) => ?_) (fun (h2 : ¬ (30 ≤ k.toInt)) => ?_)
    ·
      refine hp_s (pc' := 39) (st' := [.int c]) rfl rfl rfl ?_
      refine hp_ri rfl rfl ?_
      exact K _ (by rw [hc, show k.toInt.toNat = 30 by omega])
    ·
      refine hp_s (pc' := 13) (st' := [.ref 1]) rfl rfl rfl ?_
      refine hp_s (pc' := 14) (st' := [.int x, .ref 1]) rfl rfl rfl ?_
      refine hp_s (pc' := 16) (st' := [.int k, .int x, .ref 1]) rfl rfl rfl ?_
      refine hp_cv (r := 1) (o := 5) (kd := 1) (as := [.int x, .int k]) (rest := []) (pc' := 19) rfl rfl rfl rfl rfl rfl rfl rfl rfl (fun d1 => ?_)
      refine s_toldStreet (xi := x.toInt) rfl (mi := k.toInt) rfl (by first | assumption | omega) (by first | assumption | omega) (by first | assumption | omega) (by first | assumption | omega) ?_
      intro y1 h3
      have ey1 : y1.toInt = (rI p 3 (30 * x.toInt.toNat + k.toInt.toNat)).toInt := by rw [h3]
      refine hp_id (st := [.int y1]) ?_
      refine hp_s (pc' := 20) (st' := [.ref 1, .int y1]) rfl rfl rfl ?_
      refine hp_s (pc' := 21) (st' := [.int y, .ref 1, .int y1]) rfl rfl rfl ?_
      refine hp_s (pc' := 23) (st' := [.int k, .int y, .ref 1, .int y1]) rfl rfl rfl ?_
      refine hp_cv (r := 1) (o := 5) (kd := 1) (as := [.int y, .int k]) (rest := [.int y1]) (pc' := 26) rfl rfl rfl rfl rfl rfl rfl rfl rfl (fun d2 => ?_)
      refine s_toldStreet (xi := y.toInt) rfl (mi := k.toInt) rfl (by first | assumption | omega) (by first | assumption | omega) (by first | assumption | omega) (by first | assumption | omega) ?_
      intro y2 h4
      have ey2 : y2.toInt = (rI p 3 (30 * y.toInt.toNat + k.toInt.toNat)).toInt := by rw [h4]
      refine hp_id (st := [.int y2, .int y1]) ?_
      refine hp_ic (pc' := 29) (t := 32) (a := y1.toInt) (b := y2.toInt) rfl rfl rfl rfl rfl (fun (h5 : y1.toInt = y2.toInt) => ?_) (fun (h6 : ¬ (y1.toInt = y2.toInt)) => ?_)
      ·
        refine hp_inc (L := fun z => [(4, .int z), (3, .int c), (0, .ref 1), (1, .int x), (2, .int y)]) (pc' := 35) rfl rfl rfl (fun _ => rfl) rfl ?_
        intro z1 hz1
        have ez1 := i_add hz1 (show k.toInt = k.toInt from rfl) (show (Int32.ofInt 1).toInt = 1 from by decide)
        refine hp_go (pc' := 5) rfl rfl rfl ?_
        refine ih _ _ (by omega) (by omega) ?_
        rw [show z1.toInt.toNat = k.toInt.toNat + 1 by omega, hDf_s]
        show c.toInt = _ + (if (rI p 3 (30 * x.toInt.toNat + k.toInt.toNat)).toInt = (rI p 3 (30 * y.toInt.toNat + k.toInt.toNat)).toInt then (0 : Int) else 1)
        first | (rw [if_pos (by omega)]; omega) | (rw [if_neg (by omega)]; omega)
      ·
        refine hp_inc (L := fun z => [(3, .int z), (4, .int k), (0, .ref 1), (1, .int x), (2, .int y)]) (pc' := 32) rfl rfl rfl (fun _ => rfl) rfl ?_
        intro z2 hz2
        have ez2 := i_add hz2 (show c.toInt = c.toInt from rfl) (show (Int32.ofInt 1).toInt = 1 from by decide)
        refine hp_inc (L := fun z => [(4, .int z), (3, .int z2), (0, .ref 1), (1, .int x), (2, .int y)]) (pc' := 35) rfl rfl rfl (fun _ => rfl) rfl ?_
        intro z3 hz3
        have ez3 := i_add hz3 (show k.toInt = k.toInt from rfl) (show (Int32.ofInt 1).toInt = 1 from by decide)
        refine hp_go (pc' := 5) rfl rfl rfl ?_
        refine ih _ _ (by omega) (by omega) ?_
        rw [show z3.toInt.toNat = k.toInt.toNat + 1 by omega, hDf_s]
        show z2.toInt = _ + (if (rI p 3 (30 * x.toInt.toNat + k.toInt.toNat)).toInt = (rI p 3 (30 * y.toInt.toNat + k.toInt.toNat)).toInt then (0 : Int) else 1)
        first | (rw [if_pos (by omega)]; omega) | (rw [if_neg (by omega)]; omega)
theorem s_minutesApart {ro : List (List Int32)} {n d : Nat} {p : xH} {Q : Option Value → xH → Prop} {x : Int32} {xi : Int} {y : Int32} {yi : Int} (hx : x.toInt = xi) (hy : y.toInt = yi) (pre0 : 0 ≤ xi) (pre1 : xi < 7) (pre2 : 0 ≤ yi) (pre3 : yi < 7) (k0 : ∀ z : Int32, (z.toInt = hDf (fun j => rI p 3 (30 * xi.toNat + j)) (fun j => rI p 3 (30 * yi.toNat + j)) 30) → Q (some (.int z)) p) : hP ro n d (5, 5, 1, 1, k64) 0 (lv_args 0 [.ref 1, .int x, .int y]) [] p Q := by
  subst hx
  subst hy
  refine hp_id (ls := [(0, .ref 1), (1, .int x), (2, .int y)]) ?_
  refine hp_s (pc' := 1) (st' := [.int 0]) rfl rfl rfl ?_
  refine hp_s (pc' := 2) (ls' := [(3, .int 0), (0, .ref 1), (1, .int x), (2, .int y)]) (st' := []) rfl rfl rfl ?_
  refine hp_s (pc' := 3) (st' := [.int 0]) rfl rfl rfl ?_
  refine hp_s (pc' := 5) (ls' := [(4, .int 0), (3, .int 0), (0, .ref 1), (1, .int x), (2, .int y)]) (st' := []) rfl rfl rfl ?_
  exact lp_64 (x := x) (y := y) (by omega) (by omega) (by omega) (by omega) (fun z h => k0 z h) n 0 0 (by decide) (by decide) (by rw [show (0 : Int32).toInt = 0 by decide]; rfl)
theorem s_hasTwo {ro : List (List Int32)} {n d : Nat} {p : xH} {Q : Option Value → xH → Prop} {x : Int32} {xi : Int} (hx : x.toInt = xi)  (k0 : (0 ≤ xi) → (xi / 10 < (rI p 13 7).toInt) → (xi % 10 < (rI p 13 7).toInt) → (xi / 10 ≠ xi % 10) → Q (some (.int (1))) p) (k1 : (¬ (0 ≤ xi ∧ xi / 10 < (rI p 13 7).toInt ∧ xi % 10 < (rI p 13 7).toInt ∧ xi / 10 ≠ xi % 10)) → Q (some (.int (0))) p) : hP ro n d (1, 2, 1, 2, k7) 0 (lv_args 0 [.ref 13, .int x]) [] p Q := by
  subst hx
  refine hp_id (ls := [(0, .ref 13), (1, .int x)]) ?_
  refine hp_s (pc' := 1) (st' := [.int x]) rfl rfl rfl ?_
  refine hp_if (pc' := 4) (t := 41) (a := x.toInt) rfl rfl rfl rfl (fun (h1 : x.toInt < 0) => ?_) (fun (h2 : ¬ (x.toInt < 0)) => ?_)
  ·
    refine hp_s (pc' := 42) (st' := [.int 0]) rfl rfl rfl ?_
    refine hp_rb rfl rfl (fun _ => ?_)
    first | (exact k1 (by first | assumption | omega)) | (exfalso; omega)
  ·
    refine hp_s (pc' := 5) (st' := [.ref 13]) rfl rfl rfl ?_
    refine hp_s (pc' := 6) (st' := [.int x, .ref 13]) rfl rfl rfl ?_
    refine hp_s (pc' := 8) (st' := [.int 10, .int x, .ref 13]) rfl rfl rfl ?_
    refine hp_z (pc' := 9) (e := x / 10) (st' := [.ref 13]) rfl rfl rfl ?_
    intro z1 hz1
    have ez1 := i_div hz1 (show x.toInt = x.toInt from rfl) (show (10 : Int32).toInt = 10 from by decide) (by decide)
    refine hp_cv (r := 13) (o := 1) (kd := 1) (as := [.int z1]) (rest := []) (pc' := 12) rfl rfl rfl rfl rfl rfl rfl rfl rfl (fun d1 => ?_)
    refine s_has (xi := (x.toInt / 10)) (by omega) ?_ ?_
    ·
      intro h3 h4
      refine hp_id (st := [.int 1]) ?_
      refine hp_go (pc' := 15) rfl rfl rfl ?_
      refine hp_s (pc' := 16) (st' := [.ref 13]) rfl rfl rfl ?_
      refine hp_s (pc' := 17) (st' := [.int x, .ref 13]) rfl rfl rfl ?_
      refine hp_s (pc' := 19) (st' := [.int 10, .int x, .ref 13]) rfl rfl rfl ?_
      refine hp_z (pc' := 20) (e := x - x / 10 * 10) (st' := [.ref 13]) rfl rfl rfl ?_
      intro z2 hz2
      have ez2 := i_rem hz2 (show x.toInt = x.toInt from rfl) (show (10 : Int32).toInt = 10 from by decide) (by decide)
      refine hp_cv (r := 13) (o := 1) (kd := 1) (as := [.int z2]) (rest := []) (pc' := 23) rfl rfl rfl rfl rfl rfl rfl rfl rfl (fun d2 => ?_)
      refine s_has (xi := (x.toInt % 10)) (by omega) ?_ ?_
      ·
        intro h5 h6
        refine hp_id (st := [.int 1]) ?_
        refine hp_go (pc' := 26) rfl rfl rfl ?_
        refine hp_s (pc' := 27) (st' := [.int x]) rfl rfl rfl ?_
        refine hp_s (pc' := 29) (st' := [.int 10, .int x]) rfl rfl rfl ?_
        refine hp_z (pc' := 30) (e := x / 10) (st' := []) rfl rfl rfl ?_
        intro z3 hz3
        have ez3 := i_div hz3 (show x.toInt = x.toInt from rfl) (show (10 : Int32).toInt = 10 from by decide) (by decide)
        refine hp_s (pc' := 31) (st' := [.int x, .int z3]) rfl rfl rfl ?_
        refine hp_s (pc' := 33) (st' := [.int 10, .int x, .int z3]) rfl rfl rfl ?_
        refine hp_z (pc' := 34) (e := x - x / 10 * 10) (st' := [.int z3]) rfl rfl rfl ?_
        intro z4 hz4
        have ez4 := i_rem hz4 (show x.toInt = x.toInt from rfl) (show (10 : Int32).toInt = 10 from by decide) (by decide)
        refine hp_ic (pc' := 37) (t := 41) (a := (x.toInt / 10)) (b := (x.toInt % 10)) rfl rfl rfl (by omega) (by omega) (fun (h7 : (x.toInt / 10) = (x.toInt % 10)) => ?_) (fun (h8 : ¬ ((x.toInt / 10) = (x.toInt % 10))) => ?_)
        ·
          refine hp_s (pc' := 42) (st' := [.int 0]) rfl rfl rfl ?_
          refine hp_rb rfl rfl (fun _ => ?_)
          first | (exact k1 (by first | assumption | omega)) | (exfalso; omega)
        ·
          refine hp_s (pc' := 38) (st' := [.int 1]) rfl rfl rfl ?_
          refine hp_go (pc' := 42) rfl rfl rfl ?_
          refine hp_rb rfl rfl (fun _ => ?_)
          first | (exact k0 (by first | assumption | omega) (by first | assumption | omega) (by first | assumption | omega) (by first | assumption | omega)) | (exfalso; omega)
      ·
        intro h9
        refine hp_id (st := [.int 0]) ?_
        refine hp_go (pc' := 41) rfl rfl rfl ?_
        refine hp_s (pc' := 42) (st' := [.int 0]) rfl rfl rfl ?_
        refine hp_rb rfl rfl (fun _ => ?_)
        first | (exact k1 (by first | assumption | omega)) | (exfalso; omega)
    ·
      intro h10
      refine hp_id (st := [.int 0]) ?_
      refine hp_go (pc' := 41) rfl rfl rfl ?_
      refine hp_s (pc' := 42) (st' := [.int 0]) rfl rfl rfl ?_
      refine hp_rb rfl rfl (fun _ => ?_)
      first | (exact k1 (by first | assumption | omega)) | (exfalso; omega)
theorem s_isPq {ro : List (List Int32)} {n d : Nat} {p : xH} {Q : Option Value → xH → Prop} {x : Int32} {xi : Int} (hx : x.toInt = xi) (pre0 : 0 ≤ (rI p 66 6).toInt) (k0 : (0 ≤ xi) → (xi / 10 < (rI p 66 6).toInt) → (xi % 10 < (rI p 66 6).toInt) → (xi / 10 ≠ xi % 10) → Q (some (.int (1))) p) (k1 : (¬ (0 ≤ xi ∧ xi / 10 < (rI p 66 6).toInt ∧ xi % 10 < (rI p 66 6).toInt ∧ xi / 10 ≠ xi % 10)) → Q (some (.int (0))) p) : hP ro n d (12, 2, 1, 2, k182) 0 (lv_args 0 [.ref 66, .int x]) [] p Q := by
  subst hx
  refine hp_id (ls := [(0, .ref 66), (1, .int x)]) ?_
  refine hp_s (pc' := 1) (st' := [.int x]) rfl rfl rfl ?_
  refine hp_if (pc' := 4) (t := 41) (a := x.toInt) rfl rfl rfl rfl (fun (h1 : x.toInt < 0) => ?_) (fun (h2 : ¬ (x.toInt < 0)) => ?_)
  ·
    refine hp_s (pc' := 42) (st' := [.int 0]) rfl rfl rfl ?_
    refine hp_rb rfl rfl (fun _ => ?_)
    first | (exact k1 (by first | assumption | omega)) | (exfalso; omega)
  ·
    refine hp_s (pc' := 5) (st' := [.ref 66]) rfl rfl rfl ?_
    refine hp_s (pc' := 6) (st' := [.int x, .ref 66]) rfl rfl rfl ?_
    refine hp_s (pc' := 8) (st' := [.int 10, .int x, .ref 66]) rfl rfl rfl ?_
    refine hp_z (pc' := 9) (e := x / 10) (st' := [.ref 66]) rfl rfl rfl ?_
    intro z1 hz1
    have ez1 := i_div hz1 (show x.toInt = x.toInt from rfl) (show (10 : Int32).toInt = 10 from by decide) (by decide)
    refine hp_cv (r := 66) (o := 12) (kd := 1) (as := [.int z1]) (rest := []) (pc' := 12) rfl rfl rfl rfl rfl rfl rfl rfl rfl (fun d1 => ?_)
    refine s_isPerson (xi := (x.toInt / 10)) (by omega) (by first | assumption | omega) ?_ ?_
    ·
      intro h3 h4
      refine hp_id (st := [.int 1]) ?_
      refine hp_go (pc' := 15) rfl rfl rfl ?_
      refine hp_s (pc' := 16) (st' := [.ref 66]) rfl rfl rfl ?_
      refine hp_s (pc' := 17) (st' := [.int x, .ref 66]) rfl rfl rfl ?_
      refine hp_s (pc' := 19) (st' := [.int 10, .int x, .ref 66]) rfl rfl rfl ?_
      refine hp_z (pc' := 20) (e := x - x / 10 * 10) (st' := [.ref 66]) rfl rfl rfl ?_
      intro z2 hz2
      have ez2 := i_rem hz2 (show x.toInt = x.toInt from rfl) (show (10 : Int32).toInt = 10 from by decide) (by decide)
      refine hp_cv (r := 66) (o := 12) (kd := 1) (as := [.int z2]) (rest := []) (pc' := 23) rfl rfl rfl rfl rfl rfl rfl rfl rfl (fun d2 => ?_)
      refine s_isPerson (xi := (x.toInt % 10)) (by omega) (by first | assumption | omega) ?_ ?_
      ·
        intro h5 h6
        refine hp_id (st := [.int 1]) ?_
        refine hp_go (pc' := 26) rfl rfl rfl ?_
        refine hp_s (pc' := 27) (st' := [.int x]) rfl rfl rfl ?_
        refine hp_s (pc' := 29) (st' := [.int 10, .int x]) rfl rfl rfl ?_
        refine hp_z (pc' := 30) (e := x / 10) (st' := []) rfl rfl rfl ?_
        intro z3 hz3
        have ez3 := i_div hz3 (show x.toInt = x.toInt from rfl) (show (10 : Int32).toInt = 10 from by decide) (by decide)
        refine hp_s (pc' := 31) (st' := [.int x, .int z3]) rfl rfl rfl ?_
        refine hp_s (pc' := 33) (st' := [.int 10, .int x, .int z3]) rfl rfl rfl ?_
        refine hp_z (pc' := 34) (e := x - x / 10 * 10) (st' := [.int z3]) rfl rfl rfl ?_
        intro z4 hz4
        have ez4 := i_rem hz4 (show x.toInt = x.toInt from rfl) (show (10 : Int32).toInt = 10 from by decide) (by decide)
        refine hp_ic (pc' := 37) (t := 41) (a := (x.toInt / 10)) (b := (x.toInt % 10)) rfl rfl rfl (by omega) (by omega) (fun (h7 : (x.toInt / 10) = (x.toInt % 10)) => ?_) (fun (h8 : ¬ ((x.toInt / 10) = (x.toInt % 10))) => ?_)
        ·
          refine hp_s (pc' := 42) (st' := [.int 0]) rfl rfl rfl ?_
          refine hp_rb rfl rfl (fun _ => ?_)
          first | (exact k1 (by first | assumption | omega)) | (exfalso; omega)
        ·
          refine hp_s (pc' := 38) (st' := [.int 1]) rfl rfl rfl ?_
          refine hp_go (pc' := 42) rfl rfl rfl ?_
          refine hp_rb rfl rfl (fun _ => ?_)
          first | (exact k0 (by first | assumption | omega) (by first | assumption | omega) (by first | assumption | omega) (by first | assumption | omega)) | (exfalso; omega)
      ·
        intro h9
        refine hp_id (st := [.int 0]) ?_
        refine hp_go (pc' := 41) rfl rfl rfl ?_
        refine hp_s (pc' := 42) (st' := [.int 0]) rfl rfl rfl ?_
        refine hp_rb rfl rfl (fun _ => ?_)
        first | (exact k1 (by first | assumption | omega)) | (exfalso; omega)
    ·
      intro h10
      refine hp_id (st := [.int 0]) ?_
      refine hp_go (pc' := 41) rfl rfl rfl ?_
      refine hp_s (pc' := 42) (st' := [.int 0]) rfl rfl rfl ?_
      refine hp_rb rfl rfl (fun _ => ?_)
      first | (exact k1 (by first | assumption | omega)) | (exfalso; omega)
theorem X_watch {ro : List (List Int32)} {n d : Nat} {p : xH} {Q : Option Value → xH → Prop} {x : Int32} {xi : Int} {y : Int32} {yi : Int} (hx : x.toInt = xi) (hy : y.toInt = yi) (pre0 : (rI p 13 7).toInt ≤ 7) (pre1 : ∀ j, -1 ≤ (rI p 3 j).toInt ∧ (rI p 3 j).toInt ≤ 4) (k0 : (¬ (0 ≤ xi ∧ xi / 10 < (rI p 13 7).toInt ∧ xi % 10 < (rI p 13 7).toInt ∧ xi / 10 ≠ xi % 10 ∧ 0 ≤ yi ∧ yi ≤ 1)) → Q (some (.int (-1))) p) (k1 : ∀ z : Int32, (0 ≤ xi) → (xi / 10 < (rI p 13 7).toInt) → (xi % 10 < (rI p 13 7).toInt) → (xi / 10 ≠ xi % 10) → (yi = 0) → (hFi (fun j => rI p 3 (30 * (xi / 10).toNat + j)) (fun j => rI p 3 (30 * (xi % 10).toNat + j)) 0 z.toInt) → Q (some (.int z)) p) (k2 : ∀ z : Int32, (0 ≤ xi) → (xi / 10 < (rI p 13 7).toInt) → (xi % 10 < (rI p 13 7).toInt) → (xi / 10 ≠ xi % 10) → (yi = 1) → (z.toInt = hDf (fun j => rI p 3 (30 * (xi / 10).toNat + j)) (fun j => rI p 3 (30 * (xi % 10).toNat + j)) 30) → Q (some (.int z)) p) : hP ro n d (11, 3, 1, 1, k151) 0 (lv_args 0 [.ref 0, .int x, .int y]) [] p Q := by
  subst hx
  subst hy
  refine hp_id (ls := [(0, .ref 0), (1, .int x), (2, .int y)]) ?_
  refine hp_s (pc' := 1) (st' := [.ref 0]) rfl rfl rfl ?_
  refine hp_getr (k := 4) (w := .ref 13) (pc' := 4) rfl rfl rfl rfl rfl ?_
  refine hp_s (pc' := 5) (st' := [.int x, .ref 13]) rfl rfl rfl ?_
  refine hp_cv (r := 13) (o := 1) (kd := 1) (as := [.int x]) (rest := []) (pc' := 8) rfl rfl rfl rfl rfl rfl rfl rfl rfl (fun d1 => ?_)
  refine s_hasTwo (xi := x.toInt) rfl ?_ ?_
  ·
    intro h1 h2 h3 h4
    refine hp_id (st := [.int 1]) ?_
    refine hp_go (pc' := 11) rfl rfl rfl ?_
    refine hp_s (pc' := 12) (st' := [.int y]) rfl rfl rfl ?_
    refine hp_if (pc' := 15) (t := 20) (a := y.toInt) rfl rfl rfl rfl (fun (h5 : y.toInt < 0) => ?_) (fun (h6 : ¬ (y.toInt < 0)) => ?_)
    ·
      refine hp_s (pc' := 21) (st' := [.int (-1)]) rfl rfl rfl ?_
      refine hp_ri rfl rfl ?_
      first | (exact k0 (by first | assumption | omega)) | (exact k1 _ (by first | assumption | omega) (by first | assumption | omega) (by first | assumption | omega) (by first | assumption | omega) (by first | assumption | omega) (by first | assumption | omega)) | (exact k2 _ (by first | assumption | omega) (by first | assumption | omega) (by first | assumption | omega) (by first | assumption | omega) (by first | assumption | omega) (by first | assumption | omega)) | (exfalso; omega)
    ·
      refine hp_s (pc' := 16) (st' := [.int y]) rfl rfl rfl ?_
      refine hp_s (pc' := 17) (st' := [.int 1, .int y]) rfl rfl rfl ?_
      refine hp_ic (pc' := 20) (t := 22) (a := y.toInt) (b := 1) rfl rfl rfl rfl (by decide) (fun (h7 : y.toInt ≤ 1) => ?_) (fun (h8 : ¬ (y.toInt ≤ 1)) => ?_)
      ·
        refine hp_s (pc' := 23) (st' := [.int y]) rfl rfl rfl ?_
        refine hp_if (pc' := 26) (t := 42) (a := y.toInt) rfl rfl rfl rfl (fun (h9 : y.toInt ≠ 0) => ?_) (fun (h10 : ¬ (y.toInt ≠ 0)) => ?_)
        ·
          refine hp_s (pc' := 43) (st' := [.ref 0]) rfl rfl rfl ?_
          refine hp_getr (k := 0) (w := .ref 1) (pc' := 46) rfl rfl rfl rfl rfl ?_
          refine hp_s (pc' := 47) (st' := [.int x, .ref 1]) rfl rfl rfl ?_
          refine hp_s (pc' := 49) (st' := [.int 10, .int x, .ref 1]) rfl rfl rfl ?_
          refine hp_z (pc' := 50) (e := x / 10) (st' := [.ref 1]) rfl rfl rfl ?_
          intro z1 hz1
          have ez1 := i_div hz1 (show x.toInt = x.toInt from rfl) (show (10 : Int32).toInt = 10 from by decide) (by decide)
          refine hp_s (pc' := 51) (st' := [.int x, .int z1, .ref 1]) rfl rfl rfl ?_
          refine hp_s (pc' := 53) (st' := [.int 10, .int x, .int z1, .ref 1]) rfl rfl rfl ?_
          refine hp_z (pc' := 54) (e := x - x / 10 * 10) (st' := [.int z1, .ref 1]) rfl rfl rfl ?_
          intro z2 hz2
          have ez2 := i_rem hz2 (show x.toInt = x.toInt from rfl) (show (10 : Int32).toInt = 10 from by decide) (by decide)
          refine hp_cv (r := 1) (o := 5) (kd := 1) (as := [.int z1, .int z2]) (rest := []) (pc' := 57) rfl rfl rfl rfl rfl rfl rfl rfl rfl (fun d2 => ?_)
          refine s_minutesApart (xi := (x.toInt / 10)) (by omega) (yi := (x.toInt % 10)) (by omega) (by first | assumption | omega) (by first | assumption | omega) (by first | assumption | omega) (by first | assumption | omega) ?_
          intro y1 h11
          refine hp_id (st := [.int y1]) ?_
          refine hp_ri rfl rfl ?_
          first | (exact k0 (by first | assumption | omega)) | (exact k1 _ (by first | assumption | omega) (by first | assumption | omega) (by first | assumption | omega) (by first | assumption | omega) (by first | assumption | omega) (by first | assumption | omega)) | (exact k2 _ (by first | assumption | omega) (by first | assumption | omega) (by first | assumption | omega) (by first | assumption | omega) (by first | assumption | omega) (by first | assumption | omega)) | (exfalso; omega)
        ·
          refine hp_s (pc' := 27) (st' := [.ref 0]) rfl rfl rfl ?_
          refine hp_getr (k := 0) (w := .ref 1) (pc' := 30) rfl rfl rfl rfl rfl ?_
          refine hp_s (pc' := 31) (st' := [.int x, .ref 1]) rfl rfl rfl ?_
          refine hp_s (pc' := 33) (st' := [.int 10, .int x, .ref 1]) rfl rfl rfl ?_
          refine hp_z (pc' := 34) (e := x / 10) (st' := [.ref 1]) rfl rfl rfl ?_
          intro z3 hz3
          have ez3 := i_div hz3 (show x.toInt = x.toInt from rfl) (show (10 : Int32).toInt = 10 from by decide) (by decide)
          refine hp_s (pc' := 35) (st' := [.int x, .int z3, .ref 1]) rfl rfl rfl ?_
          refine hp_s (pc' := 37) (st' := [.int 10, .int x, .int z3, .ref 1]) rfl rfl rfl ?_
          refine hp_z (pc' := 38) (e := x - x / 10 * 10) (st' := [.int z3, .ref 1]) rfl rfl rfl ?_
          intro z4 hz4
          have ez4 := i_rem hz4 (show x.toInt = x.toInt from rfl) (show (10 : Int32).toInt = 10 from by decide) (by decide)
          refine hp_cv (r := 1) (o := 5) (kd := 1) (as := [.int z3, .int z4]) (rest := []) (pc' := 41) rfl rfl rfl rfl rfl rfl rfl rfl rfl (fun d3 => ?_)
          refine s_firstApart (xi := (x.toInt / 10)) (by omega) (yi := (x.toInt % 10)) (by omega) (by first | assumption | omega) (by first | assumption | omega) (by first | assumption | omega) (by first | assumption | omega) (by first | assumption | omega) ?_
          intro y2 h12
          refine hp_id (st := [.int y2]) ?_
          refine hp_ri rfl rfl ?_
          first | (exact k0 (by first | assumption | omega)) | (exact k1 _ (by first | assumption | omega) (by first | assumption | omega) (by first | assumption | omega) (by first | assumption | omega) (by first | assumption | omega) (by first | assumption | omega)) | (exact k2 _ (by first | assumption | omega) (by first | assumption | omega) (by first | assumption | omega) (by first | assumption | omega) (by first | assumption | omega) (by first | assumption | omega)) | (exfalso; omega)
      ·
        refine hp_s (pc' := 21) (st' := [.int (-1)]) rfl rfl rfl ?_
        refine hp_ri rfl rfl ?_
        first | (exact k0 (by first | assumption | omega)) | (exact k1 _ (by first | assumption | omega) (by first | assumption | omega) (by first | assumption | omega) (by first | assumption | omega) (by first | assumption | omega) (by first | assumption | omega)) | (exact k2 _ (by first | assumption | omega) (by first | assumption | omega) (by first | assumption | omega) (by first | assumption | omega) (by first | assumption | omega) (by first | assumption | omega)) | (exfalso; omega)
  ·
    intro h13
    refine hp_id (st := [.int 0]) ?_
    refine hp_go (pc' := 20) rfl rfl rfl ?_
    refine hp_s (pc' := 21) (st' := [.int (-1)]) rfl rfl rfl ?_
    refine hp_ri rfl rfl ?_
    first | (exact k0 (by first | assumption | omega)) | (exact k1 _ (by first | assumption | omega) (by first | assumption | omega) (by first | assumption | omega) (by first | assumption | omega) (by first | assumption | omega) (by first | assumption | omega)) | (exact k2 _ (by first | assumption | omega) (by first | assumption | omega) (by first | assumption | omega) (by first | assumption | omega) (by first | assumption | omega) (by first | assumption | omega)) | (exfalso; omega)
theorem lp_238b {ro : List (List Int32)} {d : Nat} {Q : Option Value → xH → Prop} {x y : Int32} {p : xH} (x0 : 0 ≤ x.toInt) (x7 : x.toInt / 10 < 7) (x8 : x.toInt % 10 < 7) (hlo : ∀ j, -1 ≤ (rI p 88 j).toInt ∧ (rI p 88 j).toInt ≤ 4) (K0 : ∀ z : Int32, y.toInt = 0 → hFi (fun j => rI p 88 (30 * (x.toInt / 10).toNat + j)) (fun j => rI p 88 (30 * (x.toInt % 10).toNat + j)) 0 z.toInt → Q (some (.int z)) p) (K1 : ∀ z : Int32, y.toInt ≠ 0 → z.toInt = hDf (fun j => rI p 88 (30 * (x.toInt / 10).toNat + j)) (fun j => rI p 88 (30 * (x.toInt % 10).toNat + j)) 30 → Q (some (.int z)) p) : ∀ (n : Nat) (k : Int32) (r : Int32) (c : Int32) (a : Int32) (b : Int32), (-1 ≤ k.toInt) → (k.toInt ≤ 29) → (hFi (fun j => rI p 88 (30 * (x.toInt / 10).toNat + j)) (fun j => rI p 88 (30 * (x.toInt % 10).toNat + j)) (k.toInt + 1).toNat r.toInt) → (c.toInt + hDf (fun j => rI p 88 (30 * (x.toInt / 10).toNat + j)) (fun j => rI p 88 (30 * (x.toInt % 10).toNat + j)) (k.toInt + 1).toNat = hDf (fun j => rI p 88 (30 * (x.toInt / 10).toNat + j)) (fun j => rI p 88 (30 * (x.toInt % 10).toNat + j)) 30) → hP ro n d (12, 8, 1, 1, k238) 30 [(5, .int k), (3, .int r), (4, .int c), (7, .int b), (6, .int a), (0, .ref 66), (1, .int x), (2, .int y)] [] p Q := by
  intro n
  induction n with
  | zero => intros; exact hp_0
  | succ n ih =>
    intro k r c a b h1 h2 hr hc
    have lo1 := hlo (30 * (x.toInt / 10).toNat + k.toInt.toNat)
    refine hp_s1 (pc' := 32) (st' := [.int k]) rfl rfl rfl ?_
    refine hp_if (pc' := 35) (t := 117) (a := k.toInt) rfl rfl rfl rfl (fun (h1 : k.toInt < 0) => ?_) (fun (h2 : ¬ (k.toInt < 0)) => ?_)
    ·
      refine hp_s (pc' := 118) (st' := [.int y]) rfl rfl rfl ?_
      refine hp_if (pc' := 121) (t := 125) (a := y.toInt) rfl rfl rfl rfl (fun (h3 : y.toInt ≠ 0) => ?_) (fun (h4 : ¬ (y.toInt ≠ 0)) => ?_)
      ·
        refine hp_s (pc' := 127) (st' := [.int c]) rfl rfl rfl ?_
        refine hp_ri rfl rfl ?_
        rw [show (k.toInt + 1).toNat = 0 by omega] at hr hc
        replace hc : c.toInt + 0 = hDf (fun j => rI p 88 (30 * (x.toInt / 10).toNat + j)) (fun j => rI p 88 (30 * (x.toInt % 10).toNat + j)) 30 := hc
        first | exact K0 _ (by omega) hr | exact K1 _ (by omega) (by omega)
      ·
        refine hp_s (pc' := 122) (st' := [.int r]) rfl rfl rfl ?_
        refine hp_go (pc' := 127) rfl rfl rfl ?_
        refine hp_ri rfl rfl ?_
        rw [show (k.toInt + 1).toNat = 0 by omega] at hr hc
        replace hc : c.toInt + 0 = hDf (fun j => rI p 88 (30 * (x.toInt / 10).toNat + j)) (fun j => rI p 88 (30 * (x.toInt % 10).toNat + j)) 30 := hc
        first | exact K0 _ (by omega) hr | exact K1 _ (by omega) (by omega)
    ·
      refine hp_s (pc' := 36) (st' := [.ref 66]) rfl rfl rfl ?_
      refine hp_getr (k := 33) (w := .ref 88) (pc' := 39) rfl rfl rfl rfl rfl ?_
      refine hp_s (pc' := 41) (st' := [.int 30, .ref 88]) rfl rfl rfl ?_
      refine hp_s (pc' := 42) (st' := [.int x, .int 30, .ref 88]) rfl rfl rfl ?_
      refine hp_s (pc' := 44) (st' := [.int 10, .int x, .int 30, .ref 88]) rfl rfl rfl ?_
      refine hp_z (pc' := 45) (e := x / 10) (st' := [.int 30, .ref 88]) rfl rfl rfl ?_
      intro z1 hz1
      have ez1 := i_div hz1 (show x.toInt = x.toInt from rfl) (show (10 : Int32).toInt = 10 from by decide) (by decide)
      refine hp_z (pc' := 46) (e := 30 * z1) (st' := [.ref 88]) rfl rfl rfl ?_
      intro z2 hz2
      have ez2 := i_mul hz2 (show (30 : Int32).toInt = 30 from by decide) (show z1.toInt = (x.toInt / 10) from (by omega))
      refine hp_s (pc' := 48) (st' := [.int k, .int z2, .ref 88]) rfl rfl rfl ?_
      refine hp_z (pc' := 49) (e := z2 + k) (st' := [.ref 88]) rfl rfl rfl ?_
      intro z3 hz3
      have ez3 := i_add hz3 (show z2.toInt = z2.toInt from rfl) (show k.toInt = k.toInt from rfl)
      refine hp_ld (t := 100) (v := (rI p 88 z3.toInt.toNat)) rfl (.inl rfl) rfl rfl rfl ?_
      intro (g1a : 0 ≤ z3.toInt) (g1b : z3.toInt < 210)
      refine hp_s (pc' := 52) (ls' := [(6, .int (rI p 88 z3.toInt.toNat)), (5, .int k), (3, .int r), (4, .int c), (7, .int b), (0, .ref 66), (1, .int x), (2, .int y)]) (st' := []) rfl rfl rfl ?_
      refine hp_s (pc' := 53) (st' := [.ref 66]) rfl rfl rfl ?_
      refine hp_getr (k := 33) (w := .ref 88) (pc' := 56) rfl rfl rfl rfl rfl ?_
      refine hp_s (pc' := 58) (st' := [.int 30, .ref 88]) rfl rfl rfl ?_
      refine hp_s (pc' := 59) (st' := [.int x, .int 30, .ref 88]) rfl rfl rfl ?_
      refine hp_s (pc' := 61) (st' := [.int 10, .int x, .int 30, .ref 88]) rfl rfl rfl ?_
      refine hp_z (pc' := 62) (e := x - x / 10 * 10) (st' := [.int 30, .ref 88]) rfl rfl rfl ?_
      intro z4 hz4
      have ez4 := i_rem hz4 (show x.toInt = x.toInt from rfl) (show (10 : Int32).toInt = 10 from by decide) (by decide)
      refine hp_z (pc' := 63) (e := 30 * z4) (st' := [.ref 88]) rfl rfl rfl ?_
      intro z5 hz5
      have ez5 := i_mul hz5 (show (30 : Int32).toInt = 30 from by decide) (show z4.toInt = (x.toInt % 10) from (by omega))
      refine hp_s (pc' := 65) (st' := [.int k, .int z5, .ref 88]) rfl rfl rfl ?_
      refine hp_z (pc' := 66) (e := z5 + k) (st' := [.ref 88]) rfl rfl rfl ?_
      intro z6 hz6
      have ez6 := i_add hz6 (show z5.toInt = z5.toInt from rfl) (show k.toInt = k.toInt from rfl)
      refine hp_ld (t := 100) (v := (rI p 88 z6.toInt.toNat)) rfl (.inl rfl) rfl rfl rfl ?_
      intro (g2a : 0 ≤ z6.toInt) (g2b : z6.toInt < 210)
      refine hp_s (pc' := 69) (ls' := [(7, .int (rI p 88 z6.toInt.toNat)), (6, .int (rI p 88 z3.toInt.toNat)), (5, .int k), (3, .int r), (4, .int c), (0, .ref 66), (1, .int x), (2, .int y)]) (st' := []) rfl rfl rfl ?_
      refine hp_s (pc' := 71) (st' := [.int c]) rfl rfl rfl ?_
      refine hp_s (pc' := 73) (st' := [.int (rI p 88 z3.toInt.toNat), .int c]) rfl rfl rfl ?_
      refine hp_s (pc' := 75) (st' := [.int (rI p 88 z6.toInt.toNat), .int (rI p 88 z3.toInt.toNat), .int c]) rfl rfl rfl ?_
      refine hp_ic (pc' := 78) (t := 82) (a := (rI p 88 z3.toInt.toNat).toInt) (b := (rI p 88 z6.toInt.toNat).toInt) rfl rfl rfl rfl rfl (fun (h5 : (rI p 88 z3.toInt.toNat).toInt ≠ (rI p 88 z6.toInt.toNat).toInt) => ?_) (fun (h6 : ¬ ((rI p 88 z3.toInt.toNat).toInt ≠ (rI p 88 z6.toInt.toNat).toInt)) => ?_)
      ·
        refine hp_s (pc' := 83) (st' := [.int 1, .int c]) rfl rfl rfl ?_
        refine hp_z (pc' := 84) (e := c + 1) (st' := []) rfl rfl rfl ?_
        intro z7 hz7
        have ez7 := i_add hz7 (show c.toInt = c.toInt from rfl) (show (1 : Int32).toInt = 1 from by decide)
        refine hp_s (pc' := 86) (ls' := [(4, .int z7), (7, .int (rI p 88 z6.toInt.toNat)), (6, .int (rI p 88 z3.toInt.toNat)), (5, .int k), (3, .int r), (0, .ref 66), (1, .int x), (2, .int y)]) (st' := []) rfl rfl rfl ?_
        refine hp_s (pc' := 88) (st' := [.int (rI p 88 z3.toInt.toNat)]) rfl rfl rfl ?_
        refine hp_if (pc' := 91) (t := 109) (a := (rI p 88 z3.toInt.toNat).toInt) rfl rfl rfl rfl (fun (h7 : (rI p 88 z3.toInt.toNat).toInt < 0) => ?_) (fun (h8 : ¬ ((rI p 88 z3.toInt.toNat).toInt < 0)) => ?_)
        ·
          refine hp_s (pc' := 110) (st' := [.int r]) rfl rfl rfl ?_
          refine hp_s (pc' := 111) (ls' := [(3, .int r), (4, .int z7), (7, .int (rI p 88 z6.toInt.toNat)), (6, .int (rI p 88 z3.toInt.toNat)), (5, .int k), (0, .ref 66), (1, .int x), (2, .int y)]) (st' := []) rfl rfl rfl ?_
          refine hp_inc (L := fun z => [(5, .int z), (3, .int r), (4, .int z7), (7, .int (rI p 88 z6.toInt.toNat)), (6, .int (rI p 88 z3.toInt.toNat)), (0, .ref 66), (1, .int x), (2, .int y)]) (pc' := 114) rfl rfl rfl (fun _ => rfl) rfl ?_
          intro z8 hz8
          have ez8 := i_add hz8 (show k.toInt = k.toInt from rfl) (show (Int32.ofInt (-1)).toInt = (-1) from by decide)
          refine hp_go (pc' := 30) rfl rfl rfl ?_
          have ek : (k.toInt + 1).toNat = k.toInt.toNat + 1 := by omega
          have ea : (rI p 88 z3.toInt.toNat).toInt = (rI p 88 (30 * (x.toInt / 10).toNat + k.toInt.toNat)).toInt := by congr 2; omega
          have eb : (rI p 88 z6.toInt.toNat).toInt = (rI p 88 (30 * (x.toInt % 10).toNat + k.toInt.toNat)).toInt := by congr 2; omega
          rw [ek] at hr hc
          rw [hDf_s] at hc
          replace hc : c.toInt + (hDf (fun j => rI p 88 (30 * (x.toInt / 10).toNat + j)) (fun j => rI p 88 (30 * (x.toInt % 10).toNat + j)) k.toInt.toNat + (if (rI p 88 (30 * (x.toInt / 10).toNat + k.toInt.toNat)).toInt = (rI p 88 (30 * (x.toInt % 10).toNat + k.toInt.toNat)).toInt then (0 : Int) else 1)) = hDf (fun j => rI p 88 (30 * (x.toInt / 10).toNat + j)) (fun j => rI p 88 (30 * (x.toInt % 10).toNat + j)) 30 := hc
          have hb1 := hDf_b (fun j => rI p 88 (30 * (x.toInt / 10).toNat + j)) (fun j => rI p 88 (30 * (x.toInt % 10).toNat + j)) k.toInt.toNat
          have hb2 := hDf_b (fun j => rI p 88 (30 * (x.toInt / 10).toNat + j)) (fun j => rI p 88 (30 * (x.toInt % 10).toNat + j)) 30
          refine ih z8 r z7 (rI p 88 z3.toInt.toNat) (rI p 88 z6.toInt.toNat) (by omega) (by omega) ?_ ?_
          · rw [show (z8.toInt + 1).toNat = k.toInt.toNat by omega]
            exact hFi_miss (fun h => by have q1 : 0 ≤ (rI p 88 (30 * (x.toInt / 10).toNat + k.toInt.toNat)).toInt := h.1; have q2 : (rI p 88 (30 * (x.toInt / 10).toNat + k.toInt.toNat)).toInt ≠ (rI p 88 (30 * (x.toInt % 10).toNat + k.toInt.toNat)).toInt := h.2; omega) hr
          · rw [show (z8.toInt + 1).toNat = k.toInt.toNat by omega]
            first | (rw [if_pos (by omega)] at hc; omega) | (rw [if_neg (by omega)] at hc; omega)
        ·
          refine hp_s (pc' := 93) (st' := [.int (rI p 88 z3.toInt.toNat)]) rfl rfl rfl ?_
          refine hp_s (pc' := 95) (st' := [.int (rI p 88 z6.toInt.toNat), .int (rI p 88 z3.toInt.toNat)]) rfl rfl rfl ?_
          refine hp_ic (pc' := 98) (t := 109) (a := (rI p 88 z3.toInt.toNat).toInt) (b := (rI p 88 z6.toInt.toNat).toInt) rfl rfl rfl rfl rfl (fun (h9 : (rI p 88 z3.toInt.toNat).toInt = (rI p 88 z6.toInt.toNat).toInt) => ?_) (fun (h10 : ¬ ((rI p 88 z3.toInt.toNat).toInt = (rI p 88 z6.toInt.toNat).toInt)) => ?_)
          ·
            refine hp_s (pc' := 110) (st' := [.int r]) rfl rfl rfl ?_
            refine hp_s (pc' := 111) (ls' := [(3, .int r), (4, .int z7), (7, .int (rI p 88 z6.toInt.toNat)), (6, .int (rI p 88 z3.toInt.toNat)), (5, .int k), (0, .ref 66), (1, .int x), (2, .int y)]) (st' := []) rfl rfl rfl ?_
            refine hp_inc (L := fun z => [(5, .int z), (3, .int r), (4, .int z7), (7, .int (rI p 88 z6.toInt.toNat)), (6, .int (rI p 88 z3.toInt.toNat)), (0, .ref 66), (1, .int x), (2, .int y)]) (pc' := 114) rfl rfl rfl (fun _ => rfl) rfl ?_
            intro z9 hz9
            have ez9 := i_add hz9 (show k.toInt = k.toInt from rfl) (show (Int32.ofInt (-1)).toInt = (-1) from by decide)
            refine hp_go (pc' := 30) rfl rfl rfl ?_
            have ek : (k.toInt + 1).toNat = k.toInt.toNat + 1 := by omega
            have ea : (rI p 88 z3.toInt.toNat).toInt = (rI p 88 (30 * (x.toInt / 10).toNat + k.toInt.toNat)).toInt := by congr 2; omega
            have eb : (rI p 88 z6.toInt.toNat).toInt = (rI p 88 (30 * (x.toInt % 10).toNat + k.toInt.toNat)).toInt := by congr 2; omega
            rw [ek] at hr hc
            rw [hDf_s] at hc
            replace hc : c.toInt + (hDf (fun j => rI p 88 (30 * (x.toInt / 10).toNat + j)) (fun j => rI p 88 (30 * (x.toInt % 10).toNat + j)) k.toInt.toNat + (if (rI p 88 (30 * (x.toInt / 10).toNat + k.toInt.toNat)).toInt = (rI p 88 (30 * (x.toInt % 10).toNat + k.toInt.toNat)).toInt then (0 : Int) else 1)) = hDf (fun j => rI p 88 (30 * (x.toInt / 10).toNat + j)) (fun j => rI p 88 (30 * (x.toInt % 10).toNat + j)) 30 := hc
            have hb1 := hDf_b (fun j => rI p 88 (30 * (x.toInt / 10).toNat + j)) (fun j => rI p 88 (30 * (x.toInt % 10).toNat + j)) k.toInt.toNat
            have hb2 := hDf_b (fun j => rI p 88 (30 * (x.toInt / 10).toNat + j)) (fun j => rI p 88 (30 * (x.toInt % 10).toNat + j)) 30
            refine ih z9 r z7 (rI p 88 z3.toInt.toNat) (rI p 88 z6.toInt.toNat) (by omega) (by omega) ?_ ?_
            · rw [show (z9.toInt + 1).toNat = k.toInt.toNat by omega]
              exact hFi_miss (fun h => by have q1 : 0 ≤ (rI p 88 (30 * (x.toInt / 10).toNat + k.toInt.toNat)).toInt := h.1; have q2 : (rI p 88 (30 * (x.toInt / 10).toNat + k.toInt.toNat)).toInt ≠ (rI p 88 (30 * (x.toInt % 10).toNat + k.toInt.toNat)).toInt := h.2; omega) hr
            · rw [show (z9.toInt + 1).toNat = k.toInt.toNat by omega]
              first | (rw [if_pos (by omega)] at hc; omega) | (rw [if_neg (by omega)] at hc; omega)
          ·
            refine hp_s (pc' := 100) (st' := [.int 10]) rfl rfl rfl ?_
            refine hp_s (pc' := 102) (st' := [.int k, .int 10]) rfl rfl rfl ?_
            refine hp_z (pc' := 103) (e := 10 * k) (st' := []) rfl rfl rfl ?_
            intro z10 hz10
            have ez10 := i_mul hz10 (show (10 : Int32).toInt = 10 from by decide) (show k.toInt = k.toInt from rfl)
            refine hp_s (pc' := 105) (st' := [.int (rI p 88 z3.toInt.toNat), .int z10]) rfl rfl rfl ?_
            refine hp_z (pc' := 106) (e := z10 + (rI p 88 z3.toInt.toNat)) (st' := []) rfl rfl rfl ?_
            intro z11 hz11
            have ez11 := i_add hz11 (show z10.toInt = z10.toInt from rfl) (show (rI p 88 z3.toInt.toNat).toInt = (rI p 88 z3.toInt.toNat).toInt from rfl)
            refine hp_go (pc' := 110) rfl rfl rfl ?_
            refine hp_s (pc' := 111) (ls' := [(3, .int z11), (4, .int z7), (7, .int (rI p 88 z6.toInt.toNat)), (6, .int (rI p 88 z3.toInt.toNat)), (5, .int k), (0, .ref 66), (1, .int x), (2, .int y)]) (st' := []) rfl rfl rfl ?_
            refine hp_inc (L := fun z => [(5, .int z), (3, .int z11), (4, .int z7), (7, .int (rI p 88 z6.toInt.toNat)), (6, .int (rI p 88 z3.toInt.toNat)), (0, .ref 66), (1, .int x), (2, .int y)]) (pc' := 114) rfl rfl rfl (fun _ => rfl) rfl ?_
            intro z12 hz12
            have ez12 := i_add hz12 (show k.toInt = k.toInt from rfl) (show (Int32.ofInt (-1)).toInt = (-1) from by decide)
            refine hp_go (pc' := 30) rfl rfl rfl ?_
            have ek : (k.toInt + 1).toNat = k.toInt.toNat + 1 := by omega
            have ea : (rI p 88 z3.toInt.toNat).toInt = (rI p 88 (30 * (x.toInt / 10).toNat + k.toInt.toNat)).toInt := by congr 2; omega
            have eb : (rI p 88 z6.toInt.toNat).toInt = (rI p 88 (30 * (x.toInt % 10).toNat + k.toInt.toNat)).toInt := by congr 2; omega
            rw [ek] at hr hc
            rw [hDf_s] at hc
            replace hc : c.toInt + (hDf (fun j => rI p 88 (30 * (x.toInt / 10).toNat + j)) (fun j => rI p 88 (30 * (x.toInt % 10).toNat + j)) k.toInt.toNat + (if (rI p 88 (30 * (x.toInt / 10).toNat + k.toInt.toNat)).toInt = (rI p 88 (30 * (x.toInt % 10).toNat + k.toInt.toNat)).toInt then (0 : Int) else 1)) = hDf (fun j => rI p 88 (30 * (x.toInt / 10).toNat + j)) (fun j => rI p 88 (30 * (x.toInt % 10).toNat + j)) 30 := hc
            have hb1 := hDf_b (fun j => rI p 88 (30 * (x.toInt / 10).toNat + j)) (fun j => rI p 88 (30 * (x.toInt % 10).toNat + j)) k.toInt.toNat
            have hb2 := hDf_b (fun j => rI p 88 (30 * (x.toInt / 10).toNat + j)) (fun j => rI p 88 (30 * (x.toInt % 10).toNat + j)) 30
            refine ih z12 z11 z7 (rI p 88 z3.toInt.toNat) (rI p 88 z6.toInt.toNat) (by omega) (by omega) ?_ ?_
            · rw [show (z12.toInt + 1).toNat = k.toInt.toNat by omega]
              exact hFi_hit (A := (fun j => rI p 88 (30 * (x.toInt / 10).toNat + j))) (B := (fun j => rI p 88 (30 * (x.toInt % 10).toNat + j))) ⟨by show 0 ≤ (rI p 88 (30 * (x.toInt / 10).toNat + k.toInt.toNat)).toInt; omega, by show (rI p 88 (30 * (x.toInt / 10).toNat + k.toInt.toNat)).toInt ≠ (rI p 88 (30 * (x.toInt % 10).toNat + k.toInt.toNat)).toInt; omega⟩ (by omega) (by show _ = 10 * ((k.toInt.toNat : Nat) : Int) + (rI p 88 (30 * (x.toInt / 10).toNat + k.toInt.toNat)).toInt; omega)
            · rw [show (z12.toInt + 1).toNat = k.toInt.toNat by omega]
              first | (rw [if_pos (by omega)] at hc; omega) | (rw [if_neg (by omega)] at hc; omega)
      ·
        refine hp_s (pc' := 79) (st' := [.int 0, .int c]) rfl rfl rfl ?_
        refine hp_go (pc' := 83) rfl rfl rfl ?_
        refine hp_z (pc' := 84) (e := c + 0) (st' := []) rfl rfl rfl ?_
        intro z13 hz13
        have ez13 := i_add hz13 (show c.toInt = c.toInt from rfl) (show (0 : Int32).toInt = 0 from by decide)
        refine hp_s (pc' := 86) (ls' := [(4, .int z13), (7, .int (rI p 88 z6.toInt.toNat)), (6, .int (rI p 88 z3.toInt.toNat)), (5, .int k), (3, .int r), (0, .ref 66), (1, .int x), (2, .int y)]) (st' := []) rfl rfl rfl ?_
        refine hp_s (pc' := 88) (st' := [.int (rI p 88 z3.toInt.toNat)]) rfl rfl rfl ?_
        refine hp_if (pc' := 91) (t := 109) (a := (rI p 88 z3.toInt.toNat).toInt) rfl rfl rfl rfl (fun (h11 : (rI p 88 z3.toInt.toNat).toInt < 0) => ?_) (fun (h12 : ¬ ((rI p 88 z3.toInt.toNat).toInt < 0)) => ?_)
        ·
          refine hp_s (pc' := 110) (st' := [.int r]) rfl rfl rfl ?_
          refine hp_s (pc' := 111) (ls' := [(3, .int r), (4, .int z13), (7, .int (rI p 88 z6.toInt.toNat)), (6, .int (rI p 88 z3.toInt.toNat)), (5, .int k), (0, .ref 66), (1, .int x), (2, .int y)]) (st' := []) rfl rfl rfl ?_
          refine hp_inc (L := fun z => [(5, .int z), (3, .int r), (4, .int z13), (7, .int (rI p 88 z6.toInt.toNat)), (6, .int (rI p 88 z3.toInt.toNat)), (0, .ref 66), (1, .int x), (2, .int y)]) (pc' := 114) rfl rfl rfl (fun _ => rfl) rfl ?_
          intro z14 hz14
          have ez14 := i_add hz14 (show k.toInt = k.toInt from rfl) (show (Int32.ofInt (-1)).toInt = (-1) from by decide)
          refine hp_go (pc' := 30) rfl rfl rfl ?_
          have ek : (k.toInt + 1).toNat = k.toInt.toNat + 1 := by omega
          have ea : (rI p 88 z3.toInt.toNat).toInt = (rI p 88 (30 * (x.toInt / 10).toNat + k.toInt.toNat)).toInt := by congr 2; omega
          have eb : (rI p 88 z6.toInt.toNat).toInt = (rI p 88 (30 * (x.toInt % 10).toNat + k.toInt.toNat)).toInt := by congr 2; omega
          rw [ek] at hr hc
          rw [hDf_s] at hc
          replace hc : c.toInt + (hDf (fun j => rI p 88 (30 * (x.toInt / 10).toNat + j)) (fun j => rI p 88 (30 * (x.toInt % 10).toNat + j)) k.toInt.toNat + (if (rI p 88 (30 * (x.toInt / 10).toNat + k.toInt.toNat)).toInt = (rI p 88 (30 * (x.toInt % 10).toNat + k.toInt.toNat)).toInt then (0 : Int) else 1)) = hDf (fun j => rI p 88 (30 * (x.toInt / 10).toNat + j)) (fun j => rI p 88 (30 * (x.toInt % 10).toNat + j)) 30 := hc
          have hb1 := hDf_b (fun j => rI p 88 (30 * (x.toInt / 10).toNat + j)) (fun j => rI p 88 (30 * (x.toInt % 10).toNat + j)) k.toInt.toNat
          have hb2 := hDf_b (fun j => rI p 88 (30 * (x.toInt / 10).toNat + j)) (fun j => rI p 88 (30 * (x.toInt % 10).toNat + j)) 30
          refine ih z14 r z13 (rI p 88 z3.toInt.toNat) (rI p 88 z6.toInt.toNat) (by omega) (by omega) ?_ ?_
          · rw [show (z14.toInt + 1).toNat = k.toInt.toNat by omega]
            exact hFi_miss (fun h => by have q1 : 0 ≤ (rI p 88 (30 * (x.toInt / 10).toNat + k.toInt.toNat)).toInt := h.1; have q2 : (rI p 88 (30 * (x.toInt / 10).toNat + k.toInt.toNat)).toInt ≠ (rI p 88 (30 * (x.toInt % 10).toNat + k.toInt.toNat)).toInt := h.2; omega) hr
          · rw [show (z14.toInt + 1).toNat = k.toInt.toNat by omega]
            first | (rw [if_pos (by omega)] at hc; omega) | (rw [if_neg (by omega)] at hc; omega)
        ·
          refine hp_s (pc' := 93) (st' := [.int (rI p 88 z3.toInt.toNat)]) rfl rfl rfl ?_
          refine hp_s (pc' := 95) (st' := [.int (rI p 88 z6.toInt.toNat), .int (rI p 88 z3.toInt.toNat)]) rfl rfl rfl ?_
          refine hp_ic (pc' := 98) (t := 109) (a := (rI p 88 z3.toInt.toNat).toInt) (b := (rI p 88 z6.toInt.toNat).toInt) rfl rfl rfl rfl rfl (fun (h13 : (rI p 88 z3.toInt.toNat).toInt = (rI p 88 z6.toInt.toNat).toInt) => ?_) (fun (h14 : ¬ ((rI p 88 z3.toInt.toNat).toInt = (rI p 88 z6.toInt.toNat).toInt)) => ?_)
          ·
            refine hp_s (pc' := 110) (st' := [.int r]) rfl rfl rfl ?_
            refine hp_s (pc' := 111) (ls' := [(3, .int r), (4, .int z13), (7, .int (rI p 88 z6.toInt.toNat)), (6, .int (rI p 88 z3.toInt.toNat)), (5, .int k), (0, .ref 66), (1, .int x), (2, .int y)]) (st' := []) rfl rfl rfl ?_
            refine hp_inc (L := fun z => [(5, .int z), (3, .int r), (4, .int z13), (7, .int (rI p 88 z6.toInt.toNat)), (6, .int (rI p 88 z3.toInt.toNat)), (0, .ref 66), (1, .int x), (2, .int y)]) (pc' := 114) rfl rfl rfl (fun _ => rfl) rfl ?_
            intro z15 hz15
            have ez15 := i_add hz15 (show k.toInt = k.toInt from rfl) (show (Int32.ofInt (-1)).toInt = (-1) from by decide)
            refine hp_go (pc' := 30) rfl rfl rfl ?_
            have ek : (k.toInt + 1).toNat = k.toInt.toNat + 1 := by omega
            have ea : (rI p 88 z3.toInt.toNat).toInt = (rI p 88 (30 * (x.toInt / 10).toNat + k.toInt.toNat)).toInt := by congr 2; omega
            have eb : (rI p 88 z6.toInt.toNat).toInt = (rI p 88 (30 * (x.toInt % 10).toNat + k.toInt.toNat)).toInt := by congr 2; omega
            rw [ek] at hr hc
            rw [hDf_s] at hc
            replace hc : c.toInt + (hDf (fun j => rI p 88 (30 * (x.toInt / 10).toNat + j)) (fun j => rI p 88 (30 * (x.toInt % 10).toNat + j)) k.toInt.toNat + (if (rI p 88 (30 * (x.toInt / 10).toNat + k.toInt.toNat)).toInt = (rI p 88 (30 * (x.toInt % 10).toNat + k.toInt.toNat)).toInt then (0 : Int) else 1)) = hDf (fun j => rI p 88 (30 * (x.toInt / 10).toNat + j)) (fun j => rI p 88 (30 * (x.toInt % 10).toNat + j)) 30 := hc
            have hb1 := hDf_b (fun j => rI p 88 (30 * (x.toInt / 10).toNat + j)) (fun j => rI p 88 (30 * (x.toInt % 10).toNat + j)) k.toInt.toNat
            have hb2 := hDf_b (fun j => rI p 88 (30 * (x.toInt / 10).toNat + j)) (fun j => rI p 88 (30 * (x.toInt % 10).toNat + j)) 30
            refine ih z15 r z13 (rI p 88 z3.toInt.toNat) (rI p 88 z6.toInt.toNat) (by omega) (by omega) ?_ ?_
            · rw [show (z15.toInt + 1).toNat = k.toInt.toNat by omega]
              exact hFi_miss (fun h => by have q1 : 0 ≤ (rI p 88 (30 * (x.toInt / 10).toNat + k.toInt.toNat)).toInt := h.1; have q2 : (rI p 88 (30 * (x.toInt / 10).toNat + k.toInt.toNat)).toInt ≠ (rI p 88 (30 * (x.toInt % 10).toNat + k.toInt.toNat)).toInt := h.2; omega) hr
            · rw [show (z15.toInt + 1).toNat = k.toInt.toNat by omega]
              first | (rw [if_pos (by omega)] at hc; omega) | (rw [if_neg (by omega)] at hc; omega)
          ·
            refine hp_s (pc' := 100) (st' := [.int 10]) rfl rfl rfl ?_
            refine hp_s (pc' := 102) (st' := [.int k, .int 10]) rfl rfl rfl ?_
            refine hp_z (pc' := 103) (e := 10 * k) (st' := []) rfl rfl rfl ?_
            intro z16 hz16
            have ez16 := i_mul hz16 (show (10 : Int32).toInt = 10 from by decide) (show k.toInt = k.toInt from rfl)
            refine hp_s (pc' := 105) (st' := [.int (rI p 88 z3.toInt.toNat), .int z16]) rfl rfl rfl ?_
            refine hp_z (pc' := 106) (e := z16 + (rI p 88 z3.toInt.toNat)) (st' := []) rfl rfl rfl ?_
            intro z17 hz17
            have ez17 := i_add hz17 (show z16.toInt = z16.toInt from rfl) (show (rI p 88 z3.toInt.toNat).toInt = (rI p 88 z3.toInt.toNat).toInt from rfl)
            refine hp_go (pc' := 110) rfl rfl rfl ?_
            refine hp_s (pc' := 111) (ls' := [(3, .int z17), (4, .int z13), (7, .int (rI p 88 z6.toInt.toNat)), (6, .int (rI p 88 z3.toInt.toNat)), (5, .int k), (0, .ref 66), (1, .int x), (2, .int y)]) (st' := []) rfl rfl rfl ?_
            refine hp_inc (L := fun z => [(5, .int z), (3, .int z17), (4, .int z13), (7, .int (rI p 88 z6.toInt.toNat)), (6, .int (rI p 88 z3.toInt.toNat)), (0, .ref 66), (1, .int x), (2, .int y)]) (pc' := 114) rfl rfl rfl (fun _ => rfl) rfl ?_
            intro z18 hz18
            have ez18 := i_add hz18 (show k.toInt = k.toInt from rfl) (show (Int32.ofInt (-1)).toInt = (-1) from by decide)
            refine hp_go (pc' := 30) rfl rfl rfl ?_
            have ek : (k.toInt + 1).toNat = k.toInt.toNat + 1 := by omega
            have ea : (rI p 88 z3.toInt.toNat).toInt = (rI p 88 (30 * (x.toInt / 10).toNat + k.toInt.toNat)).toInt := by congr 2; omega
            have eb : (rI p 88 z6.toInt.toNat).toInt = (rI p 88 (30 * (x.toInt % 10).toNat + k.toInt.toNat)).toInt := by congr 2; omega
            rw [ek] at hr hc
            rw [hDf_s] at hc
            replace hc : c.toInt + (hDf (fun j => rI p 88 (30 * (x.toInt / 10).toNat + j)) (fun j => rI p 88 (30 * (x.toInt % 10).toNat + j)) k.toInt.toNat + (if (rI p 88 (30 * (x.toInt / 10).toNat + k.toInt.toNat)).toInt = (rI p 88 (30 * (x.toInt % 10).toNat + k.toInt.toNat)).toInt then (0 : Int) else 1)) = hDf (fun j => rI p 88 (30 * (x.toInt / 10).toNat + j)) (fun j => rI p 88 (30 * (x.toInt % 10).toNat + j)) 30 := hc
            have hb1 := hDf_b (fun j => rI p 88 (30 * (x.toInt / 10).toNat + j)) (fun j => rI p 88 (30 * (x.toInt % 10).toNat + j)) k.toInt.toNat
            have hb2 := hDf_b (fun j => rI p 88 (30 * (x.toInt / 10).toNat + j)) (fun j => rI p 88 (30 * (x.toInt % 10).toNat + j)) 30
            refine ih z18 z17 z13 (rI p 88 z3.toInt.toNat) (rI p 88 z6.toInt.toNat) (by omega) (by omega) ?_ ?_
            · rw [show (z18.toInt + 1).toNat = k.toInt.toNat by omega]
              exact hFi_hit (A := (fun j => rI p 88 (30 * (x.toInt / 10).toNat + j))) (B := (fun j => rI p 88 (30 * (x.toInt % 10).toNat + j))) ⟨by show 0 ≤ (rI p 88 (30 * (x.toInt / 10).toNat + k.toInt.toNat)).toInt; omega, by show (rI p 88 (30 * (x.toInt / 10).toNat + k.toInt.toNat)).toInt ≠ (rI p 88 (30 * (x.toInt % 10).toNat + k.toInt.toNat)).toInt; omega⟩ (by omega) (by show _ = 10 * ((k.toInt.toNat : Nat) : Int) + (rI p 88 (30 * (x.toInt / 10).toNat + k.toInt.toNat)).toInt; omega)
            · rw [show (z18.toInt + 1).toNat = k.toInt.toNat by omega]
              first | (rw [if_pos (by omega)] at hc; omega) | (rw [if_neg (by omega)] at hc; omega)
theorem lp_238a {ro : List (List Int32)} {d : Nat} {Q : Option Value → xH → Prop} {x y : Int32} {p : xH} (x0 : 0 ≤ x.toInt) (x7 : x.toInt / 10 < 7) (x8 : x.toInt % 10 < 7) (hlo : ∀ j, -1 ≤ (rI p 88 j).toInt ∧ (rI p 88 j).toInt ≤ 4) (K0 : ∀ z : Int32, y.toInt = 0 → hFi (fun j => rI p 88 (30 * (x.toInt / 10).toNat + j)) (fun j => rI p 88 (30 * (x.toInt % 10).toNat + j)) 0 z.toInt → Q (some (.int z)) p) (K1 : ∀ z : Int32, y.toInt ≠ 0 → z.toInt = hDf (fun j => rI p 88 (30 * (x.toInt / 10).toNat + j)) (fun j => rI p 88 (30 * (x.toInt % 10).toNat + j)) 30 → Q (some (.int z)) p) : ∀ (n : Nat) (k : Int32) (r : Int32) (c : Int32), (-1 ≤ k.toInt) → (k.toInt ≤ 29) → (hFi (fun j => rI p 88 (30 * (x.toInt / 10).toNat + j)) (fun j => rI p 88 (30 * (x.toInt % 10).toNat + j)) (k.toInt + 1).toNat r.toInt) → (c.toInt + hDf (fun j => rI p 88 (30 * (x.toInt / 10).toNat + j)) (fun j => rI p 88 (30 * (x.toInt % 10).toNat + j)) (k.toInt + 1).toNat = hDf (fun j => rI p 88 (30 * (x.toInt / 10).toNat + j)) (fun j => rI p 88 (30 * (x.toInt % 10).toNat + j)) 30) → hP ro n d (12, 8, 1, 1, k238) 30 [(5, .int k), (4, .int c), (3, .int r), (0, .ref 66), (1, .int x), (2, .int y)] [] p Q := by
  intro n
  intro k r c h1 h2 hr hc
  have lo1 := hlo (30 * (x.toInt / 10).toNat + k.toInt.toNat)
  refine hp_s (pc' := 32) (st' := [.int k]) rfl rfl rfl ?_
  refine hp_if (pc' := 35) (t := 117) (a := k.toInt) rfl rfl rfl rfl (fun (h1 : k.toInt < 0) => ?_) (fun (h2 : ¬ (k.toInt < 0)) => ?_)
  ·
    refine hp_s (pc' := 118) (st' := [.int y]) rfl rfl rfl ?_
    refine hp_if (pc' := 121) (t := 125) (a := y.toInt) rfl rfl rfl rfl (fun (h3 : y.toInt ≠ 0) => ?_) (fun (h4 : ¬ (y.toInt ≠ 0)) => ?_)
    ·
      refine hp_s (pc' := 127) (st' := [.int c]) rfl rfl rfl ?_
      refine hp_ri rfl rfl ?_
      rw [show (k.toInt + 1).toNat = 0 by omega] at hr hc
      replace hc : c.toInt + 0 = hDf (fun j => rI p 88 (30 * (x.toInt / 10).toNat + j)) (fun j => rI p 88 (30 * (x.toInt % 10).toNat + j)) 30 := hc
      first | exact K0 _ (by omega) hr | exact K1 _ (by omega) (by omega)
    ·
      refine hp_s (pc' := 122) (st' := [.int r]) rfl rfl rfl ?_
      refine hp_go (pc' := 127) rfl rfl rfl ?_
      refine hp_ri rfl rfl ?_
      rw [show (k.toInt + 1).toNat = 0 by omega] at hr hc
      replace hc : c.toInt + 0 = hDf (fun j => rI p 88 (30 * (x.toInt / 10).toNat + j)) (fun j => rI p 88 (30 * (x.toInt % 10).toNat + j)) 30 := hc
      first | exact K0 _ (by omega) hr | exact K1 _ (by omega) (by omega)
  ·
    refine hp_s (pc' := 36) (st' := [.ref 66]) rfl rfl rfl ?_
    refine hp_getr (k := 33) (w := .ref 88) (pc' := 39) rfl rfl rfl rfl rfl ?_
    refine hp_s (pc' := 41) (st' := [.int 30, .ref 88]) rfl rfl rfl ?_
    refine hp_s (pc' := 42) (st' := [.int x, .int 30, .ref 88]) rfl rfl rfl ?_
    refine hp_s (pc' := 44) (st' := [.int 10, .int x, .int 30, .ref 88]) rfl rfl rfl ?_
    refine hp_z (pc' := 45) (e := x / 10) (st' := [.int 30, .ref 88]) rfl rfl rfl ?_
    intro z1 hz1
    have ez1 := i_div hz1 (show x.toInt = x.toInt from rfl) (show (10 : Int32).toInt = 10 from by decide) (by decide)
    refine hp_z (pc' := 46) (e := 30 * z1) (st' := [.ref 88]) rfl rfl rfl ?_
    intro z2 hz2
    have ez2 := i_mul hz2 (show (30 : Int32).toInt = 30 from by decide) (show z1.toInt = (x.toInt / 10) from (by omega))
    refine hp_s (pc' := 48) (st' := [.int k, .int z2, .ref 88]) rfl rfl rfl ?_
    refine hp_z (pc' := 49) (e := z2 + k) (st' := [.ref 88]) rfl rfl rfl ?_
    intro z3 hz3
    have ez3 := i_add hz3 (show z2.toInt = z2.toInt from rfl) (show k.toInt = k.toInt from rfl)
    refine hp_ld (t := 100) (v := (rI p 88 z3.toInt.toNat)) rfl (.inl rfl) rfl rfl rfl ?_
    intro (g1a : 0 ≤ z3.toInt) (g1b : z3.toInt < 210)
    refine hp_s (pc' := 52) (ls' := [(6, .int (rI p 88 z3.toInt.toNat)), (5, .int k), (4, .int c), (3, .int r), (0, .ref 66), (1, .int x), (2, .int y)]) (st' := []) rfl rfl rfl ?_
    refine hp_s (pc' := 53) (st' := [.ref 66]) rfl rfl rfl ?_
    refine hp_getr (k := 33) (w := .ref 88) (pc' := 56) rfl rfl rfl rfl rfl ?_
    refine hp_s (pc' := 58) (st' := [.int 30, .ref 88]) rfl rfl rfl ?_
    refine hp_s (pc' := 59) (st' := [.int x, .int 30, .ref 88]) rfl rfl rfl ?_
    refine hp_s (pc' := 61) (st' := [.int 10, .int x, .int 30, .ref 88]) rfl rfl rfl ?_
    refine hp_z (pc' := 62) (e := x - x / 10 * 10) (st' := [.int 30, .ref 88]) rfl rfl rfl ?_
    intro z4 hz4
    have ez4 := i_rem hz4 (show x.toInt = x.toInt from rfl) (show (10 : Int32).toInt = 10 from by decide) (by decide)
    refine hp_z (pc' := 63) (e := 30 * z4) (st' := [.ref 88]) rfl rfl rfl ?_
    intro z5 hz5
    have ez5 := i_mul hz5 (show (30 : Int32).toInt = 30 from by decide) (show z4.toInt = (x.toInt % 10) from (by omega))
    refine hp_s (pc' := 65) (st' := [.int k, .int z5, .ref 88]) rfl rfl rfl ?_
    refine hp_z (pc' := 66) (e := z5 + k) (st' := [.ref 88]) rfl rfl rfl ?_
    intro z6 hz6
    have ez6 := i_add hz6 (show z5.toInt = z5.toInt from rfl) (show k.toInt = k.toInt from rfl)
    refine hp_ld (t := 100) (v := (rI p 88 z6.toInt.toNat)) rfl (.inl rfl) rfl rfl rfl ?_
    intro (g2a : 0 ≤ z6.toInt) (g2b : z6.toInt < 210)
    refine hp_s (pc' := 69) (ls' := [(7, .int (rI p 88 z6.toInt.toNat)), (6, .int (rI p 88 z3.toInt.toNat)), (5, .int k), (4, .int c), (3, .int r), (0, .ref 66), (1, .int x), (2, .int y)]) (st' := []) rfl rfl rfl ?_
    refine hp_s (pc' := 71) (st' := [.int c]) rfl rfl rfl ?_
    refine hp_s (pc' := 73) (st' := [.int (rI p 88 z3.toInt.toNat), .int c]) rfl rfl rfl ?_
    refine hp_s (pc' := 75) (st' := [.int (rI p 88 z6.toInt.toNat), .int (rI p 88 z3.toInt.toNat), .int c]) rfl rfl rfl ?_
    refine hp_ic (pc' := 78) (t := 82) (a := (rI p 88 z3.toInt.toNat).toInt) (b := (rI p 88 z6.toInt.toNat).toInt) rfl rfl rfl rfl rfl (fun (h5 : (rI p 88 z3.toInt.toNat).toInt ≠ (rI p 88 z6.toInt.toNat).toInt) => ?_) (fun (h6 : ¬ ((rI p 88 z3.toInt.toNat).toInt ≠ (rI p 88 z6.toInt.toNat).toInt)) => ?_)
    ·
      refine hp_s (pc' := 83) (st' := [.int 1, .int c]) rfl rfl rfl ?_
      refine hp_z (pc' := 84) (e := c + 1) (st' := []) rfl rfl rfl ?_
      intro z7 hz7
      have ez7 := i_add hz7 (show c.toInt = c.toInt from rfl) (show (1 : Int32).toInt = 1 from by decide)
      refine hp_s (pc' := 86) (ls' := [(4, .int z7), (7, .int (rI p 88 z6.toInt.toNat)), (6, .int (rI p 88 z3.toInt.toNat)), (5, .int k), (3, .int r), (0, .ref 66), (1, .int x), (2, .int y)]) (st' := []) rfl rfl rfl ?_
      refine hp_s (pc' := 88) (st' := [.int (rI p 88 z3.toInt.toNat)]) rfl rfl rfl ?_
      refine hp_if (pc' := 91) (t := 109) (a := (rI p 88 z3.toInt.toNat).toInt) rfl rfl rfl rfl (fun (h7 : (rI p 88 z3.toInt.toNat).toInt < 0) => ?_) (fun (h8 : ¬ ((rI p 88 z3.toInt.toNat).toInt < 0)) => ?_)
      ·
        refine hp_s (pc' := 110) (st' := [.int r]) rfl rfl rfl ?_
        refine hp_s (pc' := 111) (ls' := [(3, .int r), (4, .int z7), (7, .int (rI p 88 z6.toInt.toNat)), (6, .int (rI p 88 z3.toInt.toNat)), (5, .int k), (0, .ref 66), (1, .int x), (2, .int y)]) (st' := []) rfl rfl rfl ?_
        refine hp_inc (L := fun z => [(5, .int z), (3, .int r), (4, .int z7), (7, .int (rI p 88 z6.toInt.toNat)), (6, .int (rI p 88 z3.toInt.toNat)), (0, .ref 66), (1, .int x), (2, .int y)]) (pc' := 114) rfl rfl rfl (fun _ => rfl) rfl ?_
        intro z8 hz8
        have ez8 := i_add hz8 (show k.toInt = k.toInt from rfl) (show (Int32.ofInt (-1)).toInt = (-1) from by decide)
        refine hp_go (pc' := 30) rfl rfl rfl ?_
        have ek : (k.toInt + 1).toNat = k.toInt.toNat + 1 := by omega
        have ea : (rI p 88 z3.toInt.toNat).toInt = (rI p 88 (30 * (x.toInt / 10).toNat + k.toInt.toNat)).toInt := by congr 2; omega
        have eb : (rI p 88 z6.toInt.toNat).toInt = (rI p 88 (30 * (x.toInt % 10).toNat + k.toInt.toNat)).toInt := by congr 2; omega
        rw [ek] at hr hc
        rw [hDf_s] at hc
        replace hc : c.toInt + (hDf (fun j => rI p 88 (30 * (x.toInt / 10).toNat + j)) (fun j => rI p 88 (30 * (x.toInt % 10).toNat + j)) k.toInt.toNat + (if (rI p 88 (30 * (x.toInt / 10).toNat + k.toInt.toNat)).toInt = (rI p 88 (30 * (x.toInt % 10).toNat + k.toInt.toNat)).toInt then (0 : Int) else 1)) = hDf (fun j => rI p 88 (30 * (x.toInt / 10).toNat + j)) (fun j => rI p 88 (30 * (x.toInt % 10).toNat + j)) 30 := hc
        have hb1 := hDf_b (fun j => rI p 88 (30 * (x.toInt / 10).toNat + j)) (fun j => rI p 88 (30 * (x.toInt % 10).toNat + j)) k.toInt.toNat
        have hb2 := hDf_b (fun j => rI p 88 (30 * (x.toInt / 10).toNat + j)) (fun j => rI p 88 (30 * (x.toInt % 10).toNat + j)) 30
        refine lp_238b x0 x7 x8 hlo K0 K1 n z8 r z7 (rI p 88 z3.toInt.toNat) (rI p 88 z6.toInt.toNat) (by omega) (by omega) ?_ ?_
        · rw [show (z8.toInt + 1).toNat = k.toInt.toNat by omega]
          exact hFi_miss (fun h => by have q1 : 0 ≤ (rI p 88 (30 * (x.toInt / 10).toNat + k.toInt.toNat)).toInt := h.1; have q2 : (rI p 88 (30 * (x.toInt / 10).toNat + k.toInt.toNat)).toInt ≠ (rI p 88 (30 * (x.toInt % 10).toNat + k.toInt.toNat)).toInt := h.2; omega) hr
        · rw [show (z8.toInt + 1).toNat = k.toInt.toNat by omega]
          first | (rw [if_pos (by omega)] at hc; omega) | (rw [if_neg (by omega)] at hc; omega)
      ·
        refine hp_s (pc' := 93) (st' := [.int (rI p 88 z3.toInt.toNat)]) rfl rfl rfl ?_
        refine hp_s (pc' := 95) (st' := [.int (rI p 88 z6.toInt.toNat), .int (rI p 88 z3.toInt.toNat)]) rfl rfl rfl ?_
        refine hp_ic (pc' := 98) (t := 109) (a := (rI p 88 z3.toInt.toNat).toInt) (b := (rI p 88 z6.toInt.toNat).toInt) rfl rfl rfl rfl rfl (fun (h9 : (rI p 88 z3.toInt.toNat).toInt = (rI p 88 z6.toInt.toNat).toInt) => ?_) (fun (h10 : ¬ ((rI p 88 z3.toInt.toNat).toInt = (rI p 88 z6.toInt.toNat).toInt)) => ?_)
        ·
          refine hp_s (pc' := 110) (st' := [.int r]) rfl rfl rfl ?_
          refine hp_s (pc' := 111) (ls' := [(3, .int r), (4, .int z7), (7, .int (rI p 88 z6.toInt.toNat)), (6, .int (rI p 88 z3.toInt.toNat)), (5, .int k), (0, .ref 66), (1, .int x), (2, .int y)]) (st' := []) rfl rfl rfl ?_
          refine hp_inc (L := fun z => [(5, .int z), (3, .int r), (4, .int z7), (7, .int (rI p 88 z6.toInt.toNat)), (6, .int (rI p 88 z3.toInt.toNat)), (0, .ref 66), (1, .int x), (2, .int y)]) (pc' := 114) rfl rfl rfl (fun _ => rfl) rfl ?_
          intro z9 hz9
          have ez9 := i_add hz9 (show k.toInt = k.toInt from rfl) (show (Int32.ofInt (-1)).toInt = (-1) from by decide)
          refine hp_go (pc' := 30) rfl rfl rfl ?_
          have ek : (k.toInt + 1).toNat = k.toInt.toNat + 1 := by omega
          have ea : (rI p 88 z3.toInt.toNat).toInt = (rI p 88 (30 * (x.toInt / 10).toNat + k.toInt.toNat)).toInt := by congr 2; omega
          have eb : (rI p 88 z6.toInt.toNat).toInt = (rI p 88 (30 * (x.toInt % 10).toNat + k.toInt.toNat)).toInt := by congr 2; omega
          rw [ek] at hr hc
          rw [hDf_s] at hc
          replace hc : c.toInt + (hDf (fun j => rI p 88 (30 * (x.toInt / 10).toNat + j)) (fun j => rI p 88 (30 * (x.toInt % 10).toNat + j)) k.toInt.toNat + (if (rI p 88 (30 * (x.toInt / 10).toNat + k.toInt.toNat)).toInt = (rI p 88 (30 * (x.toInt % 10).toNat + k.toInt.toNat)).toInt then (0 : Int) else 1)) = hDf (fun j => rI p 88 (30 * (x.toInt / 10).toNat + j)) (fun j => rI p 88 (30 * (x.toInt % 10).toNat + j)) 30 := hc
          have hb1 := hDf_b (fun j => rI p 88 (30 * (x.toInt / 10).toNat + j)) (fun j => rI p 88 (30 * (x.toInt % 10).toNat + j)) k.toInt.toNat
          have hb2 := hDf_b (fun j => rI p 88 (30 * (x.toInt / 10).toNat + j)) (fun j => rI p 88 (30 * (x.toInt % 10).toNat + j)) 30
          refine lp_238b x0 x7 x8 hlo K0 K1 n z9 r z7 (rI p 88 z3.toInt.toNat) (rI p 88 z6.toInt.toNat) (by omega) (by omega) ?_ ?_
          · rw [show (z9.toInt + 1).toNat = k.toInt.toNat by omega]
            exact hFi_miss (fun h => by have q1 : 0 ≤ (rI p 88 (30 * (x.toInt / 10).toNat + k.toInt.toNat)).toInt := h.1; have q2 : (rI p 88 (30 * (x.toInt / 10).toNat + k.toInt.toNat)).toInt ≠ (rI p 88 (30 * (x.toInt % 10).toNat + k.toInt.toNat)).toInt := h.2; omega) hr
          · rw [show (z9.toInt + 1).toNat = k.toInt.toNat by omega]
            first | (rw [if_pos (by omega)] at hc; omega) | (rw [if_neg (by omega)] at hc; omega)
        ·
          refine hp_s (pc' := 100) (st' := [.int 10]) rfl rfl rfl ?_
          refine hp_s (pc' := 102) (st' := [.int k, .int 10]) rfl rfl rfl ?_
          refine hp_z (pc' := 103) (e := 10 * k) (st' := []) rfl rfl rfl ?_
          intro z10 hz10
          have ez10 := i_mul hz10 (show (10 : Int32).toInt = 10 from by decide) (show k.toInt = k.toInt from rfl)
          refine hp_s (pc' := 105) (st' := [.int (rI p 88 z3.toInt.toNat), .int z10]) rfl rfl rfl ?_
          refine hp_z (pc' := 106) (e := z10 + (rI p 88 z3.toInt.toNat)) (st' := []) rfl rfl rfl ?_
          intro z11 hz11
          have ez11 := i_add hz11 (show z10.toInt = z10.toInt from rfl) (show (rI p 88 z3.toInt.toNat).toInt = (rI p 88 z3.toInt.toNat).toInt from rfl)
          refine hp_go (pc' := 110) rfl rfl rfl ?_
          refine hp_s (pc' := 111) (ls' := [(3, .int z11), (4, .int z7), (7, .int (rI p 88 z6.toInt.toNat)), (6, .int (rI p 88 z3.toInt.toNat)), (5, .int k), (0, .ref 66), (1, .int x), (2, .int y)]) (st' := []) rfl rfl rfl ?_
          refine hp_inc (L := fun z => [(5, .int z), (3, .int z11), (4, .int z7), (7, .int (rI p 88 z6.toInt.toNat)), (6, .int (rI p 88 z3.toInt.toNat)), (0, .ref 66), (1, .int x), (2, .int y)]) (pc' := 114) rfl rfl rfl (fun _ => rfl) rfl ?_
          intro z12 hz12
          have ez12 := i_add hz12 (show k.toInt = k.toInt from rfl) (show (Int32.ofInt (-1)).toInt = (-1) from by decide)
          refine hp_go (pc' := 30) rfl rfl rfl ?_
          have ek : (k.toInt + 1).toNat = k.toInt.toNat + 1 := by omega
          have ea : (rI p 88 z3.toInt.toNat).toInt = (rI p 88 (30 * (x.toInt / 10).toNat + k.toInt.toNat)).toInt := by congr 2; omega
          have eb : (rI p 88 z6.toInt.toNat).toInt = (rI p 88 (30 * (x.toInt % 10).toNat + k.toInt.toNat)).toInt := by congr 2; omega
          rw [ek] at hr hc
          rw [hDf_s] at hc
          replace hc : c.toInt + (hDf (fun j => rI p 88 (30 * (x.toInt / 10).toNat + j)) (fun j => rI p 88 (30 * (x.toInt % 10).toNat + j)) k.toInt.toNat + (if (rI p 88 (30 * (x.toInt / 10).toNat + k.toInt.toNat)).toInt = (rI p 88 (30 * (x.toInt % 10).toNat + k.toInt.toNat)).toInt then (0 : Int) else 1)) = hDf (fun j => rI p 88 (30 * (x.toInt / 10).toNat + j)) (fun j => rI p 88 (30 * (x.toInt % 10).toNat + j)) 30 := hc
          have hb1 := hDf_b (fun j => rI p 88 (30 * (x.toInt / 10).toNat + j)) (fun j => rI p 88 (30 * (x.toInt % 10).toNat + j)) k.toInt.toNat
          have hb2 := hDf_b (fun j => rI p 88 (30 * (x.toInt / 10).toNat + j)) (fun j => rI p 88 (30 * (x.toInt % 10).toNat + j)) 30
          refine lp_238b x0 x7 x8 hlo K0 K1 n z12 z11 z7 (rI p 88 z3.toInt.toNat) (rI p 88 z6.toInt.toNat) (by omega) (by omega) ?_ ?_
          · rw [show (z12.toInt + 1).toNat = k.toInt.toNat by omega]
            exact hFi_hit (A := (fun j => rI p 88 (30 * (x.toInt / 10).toNat + j))) (B := (fun j => rI p 88 (30 * (x.toInt % 10).toNat + j))) ⟨by show 0 ≤ (rI p 88 (30 * (x.toInt / 10).toNat + k.toInt.toNat)).toInt; omega, by show (rI p 88 (30 * (x.toInt / 10).toNat + k.toInt.toNat)).toInt ≠ (rI p 88 (30 * (x.toInt % 10).toNat + k.toInt.toNat)).toInt; omega⟩ (by omega) (by show _ = 10 * ((k.toInt.toNat : Nat) : Int) + (rI p 88 (30 * (x.toInt / 10).toNat + k.toInt.toNat)).toInt; omega)
          · rw [show (z12.toInt + 1).toNat = k.toInt.toNat by omega]
            first | (rw [if_pos (by omega)] at hc; omega) | (rw [if_neg (by omega)] at hc; omega)
    ·
      refine hp_s (pc' := 79) (st' := [.int 0, .int c]) rfl rfl rfl ?_
      refine hp_go (pc' := 83) rfl rfl rfl ?_
      refine hp_z (pc' := 84) (e := c + 0) (st' := []) rfl rfl rfl ?_
      intro z13 hz13
      have ez13 := i_add hz13 (show c.toInt = c.toInt from rfl) (show (0 : Int32).toInt = 0 from by decide)
      refine hp_s (pc' := 86) (ls' := [(4, .int z13), (7, .int (rI p 88 z6.toInt.toNat)), (6, .int (rI p 88 z3.toInt.toNat)), (5, .int k), (3, .int r), (0, .ref 66), (1, .int x), (2, .int y)]) (st' := []) rfl rfl rfl ?_
      refine hp_s (pc' := 88) (st' := [.int (rI p 88 z3.toInt.toNat)]) rfl rfl rfl ?_
      refine hp_if (pc' := 91) (t := 109) (a := (rI p 88 z3.toInt.toNat).toInt) rfl rfl rfl rfl (fun (h11 : (rI p 88 z3.toInt.toNat).toInt < 0) => ?_) (fun (h12 : ¬ ((rI p 88 z3.toInt.toNat).toInt < 0)) => ?_)
      ·
        refine hp_s (pc' := 110) (st' := [.int r]) rfl rfl rfl ?_
        refine hp_s (pc' := 111) (ls' := [(3, .int r), (4, .int z13), (7, .int (rI p 88 z6.toInt.toNat)), (6, .int (rI p 88 z3.toInt.toNat)), (5, .int k), (0, .ref 66), (1, .int x), (2, .int y)]) (st' := []) rfl rfl rfl ?_
        refine hp_inc (L := fun z => [(5, .int z), (3, .int r), (4, .int z13), (7, .int (rI p 88 z6.toInt.toNat)), (6, .int (rI p 88 z3.toInt.toNat)), (0, .ref 66), (1, .int x), (2, .int y)]) (pc' := 114) rfl rfl rfl (fun _ => rfl) rfl ?_
        intro z14 hz14
        have ez14 := i_add hz14 (show k.toInt = k.toInt from rfl) (show (Int32.ofInt (-1)).toInt = (-1) from by decide)
        refine hp_go (pc' := 30) rfl rfl rfl ?_
        have ek : (k.toInt + 1).toNat = k.toInt.toNat + 1 := by omega
        have ea : (rI p 88 z3.toInt.toNat).toInt = (rI p 88 (30 * (x.toInt / 10).toNat + k.toInt.toNat)).toInt := by congr 2; omega
        have eb : (rI p 88 z6.toInt.toNat).toInt = (rI p 88 (30 * (x.toInt % 10).toNat + k.toInt.toNat)).toInt := by congr 2; omega
        rw [ek] at hr hc
        rw [hDf_s] at hc
        replace hc : c.toInt + (hDf (fun j => rI p 88 (30 * (x.toInt / 10).toNat + j)) (fun j => rI p 88 (30 * (x.toInt % 10).toNat + j)) k.toInt.toNat + (if (rI p 88 (30 * (x.toInt / 10).toNat + k.toInt.toNat)).toInt = (rI p 88 (30 * (x.toInt % 10).toNat + k.toInt.toNat)).toInt then (0 : Int) else 1)) = hDf (fun j => rI p 88 (30 * (x.toInt / 10).toNat + j)) (fun j => rI p 88 (30 * (x.toInt % 10).toNat + j)) 30 := hc
        have hb1 := hDf_b (fun j => rI p 88 (30 * (x.toInt / 10).toNat + j)) (fun j => rI p 88 (30 * (x.toInt % 10).toNat + j)) k.toInt.toNat
        have hb2 := hDf_b (fun j => rI p 88 (30 * (x.toInt / 10).toNat + j)) (fun j => rI p 88 (30 * (x.toInt % 10).toNat + j)) 30
        refine lp_238b x0 x7 x8 hlo K0 K1 n z14 r z13 (rI p 88 z3.toInt.toNat) (rI p 88 z6.toInt.toNat) (by omega) (by omega) ?_ ?_
        · rw [show (z14.toInt + 1).toNat = k.toInt.toNat by omega]
          exact hFi_miss (fun h => by have q1 : 0 ≤ (rI p 88 (30 * (x.toInt / 10).toNat + k.toInt.toNat)).toInt := h.1; have q2 : (rI p 88 (30 * (x.toInt / 10).toNat + k.toInt.toNat)).toInt ≠ (rI p 88 (30 * (x.toInt % 10).toNat + k.toInt.toNat)).toInt := h.2; omega) hr
        · rw [show (z14.toInt + 1).toNat = k.toInt.toNat by omega]
          first | (rw [if_pos (by omega)] at hc; omega) | (rw [if_neg (by omega)] at hc; omega)
      ·
        refine hp_s (pc' := 93) (st' := [.int (rI p 88 z3.toInt.toNat)]) rfl rfl rfl ?_
        refine hp_s (pc' := 95) (st' := [.int (rI p 88 z6.toInt.toNat), .int (rI p 88 z3.toInt.toNat)]) rfl rfl rfl ?_
        refine hp_ic (pc' := 98) (t := 109) (a := (rI p 88 z3.toInt.toNat).toInt) (b := (rI p 88 z6.toInt.toNat).toInt) rfl rfl rfl rfl rfl (fun (h13 : (rI p 88 z3.toInt.toNat).toInt = (rI p 88 z6.toInt.toNat).toInt) => ?_) (fun (h14 : ¬ ((rI p 88 z3.toInt.toNat).toInt = (rI p 88 z6.toInt.toNat).toInt)) => ?_)
        ·
          refine hp_s (pc' := 110) (st' := [.int r]) rfl rfl rfl ?_
          refine hp_s (pc' := 111) (ls' := [(3, .int r), (4, .int z13), (7, .int (rI p 88 z6.toInt.toNat)), (6, .int (rI p 88 z3.toInt.toNat)), (5, .int k), (0, .ref 66), (1, .int x), (2, .int y)]) (st' := []) rfl rfl rfl ?_
          refine hp_inc (L := fun z => [(5, .int z), (3, .int r), (4, .int z13), (7, .int (rI p 88 z6.toInt.toNat)), (6, .int (rI p 88 z3.toInt.toNat)), (0, .ref 66), (1, .int x), (2, .int y)]) (pc' := 114) rfl rfl rfl (fun _ => rfl) rfl ?_
          intro z15 hz15
          have ez15 := i_add hz15 (show k.toInt = k.toInt from rfl) (show (Int32.ofInt (-1)).toInt = (-1) from by decide)
          refine hp_go (pc' := 30) rfl rfl rfl ?_
          have ek : (k.toInt + 1).toNat = k.toInt.toNat + 1 := by omega
          have ea : (rI p 88 z3.toInt.toNat).toInt = (rI p 88 (30 * (x.toInt / 10).toNat + k.toInt.toNat)).toInt := by congr 2; omega
          have eb : (rI p 88 z6.toInt.toNat).toInt = (rI p 88 (30 * (x.toInt % 10).toNat + k.toInt.toNat)).toInt := by congr 2; omega
          rw [ek] at hr hc
          rw [hDf_s] at hc
          replace hc : c.toInt + (hDf (fun j => rI p 88 (30 * (x.toInt / 10).toNat + j)) (fun j => rI p 88 (30 * (x.toInt % 10).toNat + j)) k.toInt.toNat + (if (rI p 88 (30 * (x.toInt / 10).toNat + k.toInt.toNat)).toInt = (rI p 88 (30 * (x.toInt % 10).toNat + k.toInt.toNat)).toInt then (0 : Int) else 1)) = hDf (fun j => rI p 88 (30 * (x.toInt / 10).toNat + j)) (fun j => rI p 88 (30 * (x.toInt % 10).toNat + j)) 30 := hc
          have hb1 := hDf_b (fun j => rI p 88 (30 * (x.toInt / 10).toNat + j)) (fun j => rI p 88 (30 * (x.toInt % 10).toNat + j)) k.toInt.toNat
          have hb2 := hDf_b (fun j => rI p 88 (30 * (x.toInt / 10).toNat + j)) (fun j => rI p 88 (30 * (x.toInt % 10).toNat + j)) 30
          refine lp_238b x0 x7 x8 hlo K0 K1 n z15 r z13 (rI p 88 z3.toInt.toNat) (rI p 88 z6.toInt.toNat) (by omega) (by omega) ?_ ?_
          · rw [show (z15.toInt + 1).toNat = k.toInt.toNat by omega]
            exact hFi_miss (fun h => by have q1 : 0 ≤ (rI p 88 (30 * (x.toInt / 10).toNat + k.toInt.toNat)).toInt := h.1; have q2 : (rI p 88 (30 * (x.toInt / 10).toNat + k.toInt.toNat)).toInt ≠ (rI p 88 (30 * (x.toInt % 10).toNat + k.toInt.toNat)).toInt := h.2; omega) hr
          · rw [show (z15.toInt + 1).toNat = k.toInt.toNat by omega]
            first | (rw [if_pos (by omega)] at hc; omega) | (rw [if_neg (by omega)] at hc; omega)
        ·
          refine hp_s (pc' := 100) (st' := [.int 10]) rfl rfl rfl ?_
          refine hp_s (pc' := 102) (st' := [.int k, .int 10]) rfl rfl rfl ?_
          refine hp_z (pc' := 103) (e := 10 * k) (st' := []) rfl rfl rfl ?_
          intro z16 hz16
          have ez16 := i_mul hz16 (show (10 : Int32).toInt = 10 from by decide) (show k.toInt = k.toInt from rfl)
          refine hp_s (pc' := 105) (st' := [.int (rI p 88 z3.toInt.toNat), .int z16]) rfl rfl rfl ?_
          refine hp_z (pc' := 106) (e := z16 + (rI p 88 z3.toInt.toNat)) (st' := []) rfl rfl rfl ?_
          intro z17 hz17
          have ez17 := i_add hz17 (show z16.toInt = z16.toInt from rfl) (show (rI p 88 z3.toInt.toNat).toInt = (rI p 88 z3.toInt.toNat).toInt from rfl)
          refine hp_go (pc' := 110) rfl rfl rfl ?_
          refine hp_s (pc' := 111) (ls' := [(3, .int z17), (4, .int z13), (7, .int (rI p 88 z6.toInt.toNat)), (6, .int (rI p 88 z3.toInt.toNat)), (5, .int k), (0, .ref 66), (1, .int x), (2, .int y)]) (st' := []) rfl rfl rfl ?_
          refine hp_inc (L := fun z => [(5, .int z), (3, .int z17), (4, .int z13), (7, .int (rI p 88 z6.toInt.toNat)), (6, .int (rI p 88 z3.toInt.toNat)), (0, .ref 66), (1, .int x), (2, .int y)]) (pc' := 114) rfl rfl rfl (fun _ => rfl) rfl ?_
          intro z18 hz18
          have ez18 := i_add hz18 (show k.toInt = k.toInt from rfl) (show (Int32.ofInt (-1)).toInt = (-1) from by decide)
          refine hp_go (pc' := 30) rfl rfl rfl ?_
          have ek : (k.toInt + 1).toNat = k.toInt.toNat + 1 := by omega
          have ea : (rI p 88 z3.toInt.toNat).toInt = (rI p 88 (30 * (x.toInt / 10).toNat + k.toInt.toNat)).toInt := by congr 2; omega
          have eb : (rI p 88 z6.toInt.toNat).toInt = (rI p 88 (30 * (x.toInt % 10).toNat + k.toInt.toNat)).toInt := by congr 2; omega
          rw [ek] at hr hc
          rw [hDf_s] at hc
          replace hc : c.toInt + (hDf (fun j => rI p 88 (30 * (x.toInt / 10).toNat + j)) (fun j => rI p 88 (30 * (x.toInt % 10).toNat + j)) k.toInt.toNat + (if (rI p 88 (30 * (x.toInt / 10).toNat + k.toInt.toNat)).toInt = (rI p 88 (30 * (x.toInt % 10).toNat + k.toInt.toNat)).toInt then (0 : Int) else 1)) = hDf (fun j => rI p 88 (30 * (x.toInt / 10).toNat + j)) (fun j => rI p 88 (30 * (x.toInt % 10).toNat + j)) 30 := hc
          have hb1 := hDf_b (fun j => rI p 88 (30 * (x.toInt / 10).toNat + j)) (fun j => rI p 88 (30 * (x.toInt % 10).toNat + j)) k.toInt.toNat
          have hb2 := hDf_b (fun j => rI p 88 (30 * (x.toInt / 10).toNat + j)) (fun j => rI p 88 (30 * (x.toInt % 10).toNat + j)) 30
          refine lp_238b x0 x7 x8 hlo K0 K1 n z18 z17 z13 (rI p 88 z3.toInt.toNat) (rI p 88 z6.toInt.toNat) (by omega) (by omega) ?_ ?_
          · rw [show (z18.toInt + 1).toNat = k.toInt.toNat by omega]
            exact hFi_hit (A := (fun j => rI p 88 (30 * (x.toInt / 10).toNat + j))) (B := (fun j => rI p 88 (30 * (x.toInt % 10).toNat + j))) ⟨by show 0 ≤ (rI p 88 (30 * (x.toInt / 10).toNat + k.toInt.toNat)).toInt; omega, by show (rI p 88 (30 * (x.toInt / 10).toNat + k.toInt.toNat)).toInt ≠ (rI p 88 (30 * (x.toInt % 10).toNat + k.toInt.toNat)).toInt; omega⟩ (by omega) (by show _ = 10 * ((k.toInt.toNat : Nat) : Int) + (rI p 88 (30 * (x.toInt / 10).toNat + k.toInt.toNat)).toInt; omega)
          · rw [show (z18.toInt + 1).toNat = k.toInt.toNat by omega]
            first | (rw [if_pos (by omega)] at hc; omega) | (rw [if_neg (by omega)] at hc; omega)
theorem M_watch {ro : List (List Int32)} {n d : Nat} {p : xH} {Q : Option Value → xH → Prop} {x : Int32} {xi : Int} {y : Int32} {yi : Int} (hx : x.toInt = xi) (hy : y.toInt = yi) (pre0 : 0 ≤ (rI p 66 6).toInt) (pre1 : (rI p 66 6).toInt ≤ 7) (pre2 : ∀ j, -1 ≤ (rI p 88 j).toInt ∧ (rI p 88 j).toInt ≤ 4) (k0 : (¬ (0 ≤ xi ∧ xi / 10 < (rI p 66 6).toInt ∧ xi % 10 < (rI p 66 6).toInt ∧ xi / 10 ≠ xi % 10 ∧ 0 ≤ yi ∧ yi ≤ 1)) → Q (some (.int (-1))) p) (k1 : ∀ z : Int32, (0 ≤ xi) → (xi / 10 < (rI p 66 6).toInt) → (xi % 10 < (rI p 66 6).toInt) → (xi / 10 ≠ xi % 10) → (yi = 0) → (hFi (fun j => rI p 88 (30 * (xi / 10).toNat + j)) (fun j => rI p 88 (30 * (xi % 10).toNat + j)) 0 z.toInt) → Q (some (.int z)) p) (k2 : ∀ z : Int32, (0 ≤ xi) → (xi / 10 < (rI p 66 6).toInt) → (xi % 10 < (rI p 66 6).toInt) → (xi / 10 ≠ xi % 10) → (yi = 1) → (z.toInt = hDf (fun j => rI p 88 (30 * (xi / 10).toNat + j)) (fun j => rI p 88 (30 * (xi % 10).toNat + j)) 30) → Q (some (.int z)) p) : hP ro n d (12, 8, 1, 1, k238) 0 (lv_args 0 [.ref 66, .int x, .int y]) [] p Q := by
  subst hx
  subst hy
  refine hp_id (ls := [(0, .ref 66), (1, .int x), (2, .int y)]) ?_
  refine hp_s (pc' := 1) (st' := [.ref 66]) rfl rfl rfl ?_
  refine hp_s (pc' := 2) (st' := [.int x, .ref 66]) rfl rfl rfl ?_
  refine hp_cv (r := 66) (o := 12) (kd := 1) (as := [.int x]) (rest := []) (pc' := 5) rfl rfl rfl rfl rfl rfl rfl rfl rfl (fun d1 => ?_)
  refine s_isPq (xi := x.toInt) rfl (by first | assumption | omega) ?_ ?_
  ·
    intro h1 h2 h3 h4
    refine hp_id (st := [.int 1]) ?_
    refine hp_go (pc' := 8) rfl rfl rfl ?_
    refine hp_s (pc' := 9) (st' := [.int y]) rfl rfl rfl ?_
    refine hp_i2l (pc' := 10) rfl rfl ?_
    intro z1 hz1 ez1
    refine hp_s (pc' := 11) (st' := [.long 0, .long z1]) rfl rfl rfl ?_
    refine hp_s (pc' := 12) (st' := [.long 1, .long 0, .long z1]) rfl rfl rfl ?_
    refine hp_cs (kd := 0) (as := [.long z1, .long 0, .long 1]) (rest := []) (pc' := 15) rfl rfl rfl rfl rfl rfl rfl (fun d2 => ?_)
    refine s_within (vi := y.toInt) ez1 (ai := 0) (by decide) (bi := 1) (by decide) ?_ ?_
    ·
      intro h5 h6
      refine hp_id (st := [.int 1]) ?_
      refine hp_go (pc' := 20) rfl rfl rfl ?_
      refine hp_s (pc' := 22) (st' := [.int (-2)]) rfl rfl rfl ?_
      refine hp_s (pc' := 23) (ls' := [(3, .int (-2)), (0, .ref 66), (1, .int x), (2, .int y)]) (st' := []) rfl rfl rfl ?_
      refine hp_s (pc' := 24) (st' := [.int 0]) rfl rfl rfl ?_
      refine hp_s (pc' := 26) (ls' := [(4, .int 0), (3, .int (-2)), (0, .ref 66), (1, .int x), (2, .int y)]) (st' := []) rfl rfl rfl ?_
      refine hp_s (pc' := 28) (st' := [.int 29]) rfl rfl rfl ?_
      refine hp_s (pc' := 30) (ls' := [(5, .int 29), (4, .int 0), (3, .int (-2)), (0, .ref 66), (1, .int x), (2, .int y)]) (st' := []) rfl rfl rfl ?_
      exact lp_238a (x := x) (y := y) (by omega) (by omega) (by omega) pre2 (fun z h g => k1 z (by omega) (by omega) (by omega) (by omega) (by omega) g) (fun z h g => k2 z (by omega) (by omega) (by omega) (by omega) (by omega) g) n 29 (-2) 0 (by decide) (by decide) (Or.inr ⟨fun j h1 h2 => absurd h1 (by have h29 : (29 : Int32).toInt = 29 := (by decide); omega), by decide⟩) (by rw [show ((29 : Int32).toInt + 1).toNat = 30 by decide, show (0 : Int32).toInt = 0 by decide]; exact Int.zero_add _)
    ·
      intro h7
      refine hp_id (st := [.int 0]) ?_
      refine hp_go (pc' := 18) rfl rfl rfl ?_
      refine hp_s (pc' := 19) (st' := [.int (-1)]) rfl rfl rfl ?_
      refine hp_ri rfl rfl ?_
      first | (exact k0 (by first | assumption | omega)) | (exact k1 _ (by first | assumption | omega) (by first | assumption | omega) (by first | assumption | omega) (by first | assumption | omega) (by first | assumption | omega) (by first | assumption | omega)) | (exact k2 _ (by first | assumption | omega) (by first | assumption | omega) (by first | assumption | omega) (by first | assumption | omega) (by first | assumption | omega) (by first | assumption | omega)) | (exfalso; omega)
  ·
    intro h8
    refine hp_id (st := [.int 0]) ?_
    refine hp_go (pc' := 18) rfl rfl rfl ?_
    refine hp_s (pc' := 19) (st' := [.int (-1)]) rfl rfl rfl ?_
    refine hp_ri rfl rfl ?_
    first | (exact k0 (by first | assumption | omega)) | (exact k1 _ (by first | assumption | omega) (by first | assumption | omega) (by first | assumption | omega) (by first | assumption | omega) (by first | assumption | omega) (by first | assumption | omega)) | (exact k2 _ (by first | assumption | omega) (by first | assumption | omega) (by first | assumption | omega) (by first | assumption | omega) (by first | assumption | omega) (by first | assumption | omega)) | (exfalso; omega)
