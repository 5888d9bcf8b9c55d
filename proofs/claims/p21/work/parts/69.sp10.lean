/-! contracts of methods, walked -/
theorem rI_same {p p' : xH} {r k r' k' : Nat} (h : rV p r k = rV p' r' k') : rI p r k = rI p' r' k' := by unfold rI; rw [h]
def hWr (m y : Int32) : Prop := y.toInt = -1 ∨ (0 ≤ y.toInt ∧ y.toInt < 6 ∧ (m >>> (y &&& 31) &&& 1).toInt = 1)
theorem lp_22 {ro : List (List Int32)} {d : Nat} {Q : Option Value → xH → Prop} {p0 : xH} (g0 : 0 ≤ (rI p0 13 7).toInt) (g1 : (rI p0 13 7).toInt ≤ 7) (K : ∀ (p2 : xH) (k : Int32), hOn 14 (fun j => if 0 ≤ j ∧ j < (rI p0 13 7).toInt.toNat then .int (rI p0 14 j ^^^ rI p0 16 j) else rV p0 14 j) p0 p2 → ∀ n, hP ro n d (1, 2, 1, 1, k22) 31 [(1, .int k), (0, .ref 13)] [] p2 Q) : ∀ (n : Nat) (k : Int32) (p : xH), (0 ≤ k.toInt) → (k.toInt ≤ (rI p0 13 7).toInt) → (hOn 14 (fun j => if 0 ≤ j ∧ j < k.toInt.toNat then .int (rI p0 14 j ^^^ rI p0 16 j) else rV p0 14 j) p0 p) → hP ro n d (1, 2, 1, 1, k22) 2 [(1, .int k), (0, .ref 13)] [] p Q := by
  intro n
  induction n with
  | zero => intros; exact hp_0
  | succ n ih =>
    intro k p h1 h2 hO
    have e7 : (rI p 13 7).toInt = (rI p0 13 7).toInt := by rw [hO.int (by decide)]
    refine hp_s1 (pc' := 3) (st' := [.int k]) rfl rfl rfl ?_
    refine hp_s (pc' := 4) (st' := [.ref 13, .int k]) rfl rfl rfl ?_
    refine hp_get (k := 7) (pc' := 7) (v := (rI p 13 7)) rfl rfl rfl rfl rfl rfl ?_
    refine hp_ic (pc' := 10) (t := 31) (a := k.toInt) (b := (rI p 13 7).toInt) rfl rfl rfl rfl rfl (fun (h1 : (rI p 13 7).toInt ≤ k.toInt) => ?_) (fun (h2 : ¬ ((rI p 13 7).toInt ≤ k.toInt)) => ?_)
    ·
      exact K _ _ (by rw [show (rI p0 13 7).toInt.toNat = k.toInt.toNat by omega]; exact hO) n
    ·
      refine hp_s (pc' := 11) (st' := [.ref 13]) rfl rfl rfl ?_
      refine hp_getr (k := 1) (w := .ref 14) (pc' := 14) rfl rfl rfl rfl rfl ?_
      refine hp_s (pc' := 15) (st' := [.int k, .ref 14]) rfl rfl rfl ?_
      refine hp_s (pc' := 16) (st' := [.int k, .ref 14, .int k, .ref 14]) rfl rfl rfl ?_
      refine hp_ld (t := 100) (v := (rI p 14 k.toInt.toNat)) rfl (.inl rfl) rfl rfl rfl ?_
      intro (g1a : 0 ≤ k.toInt) (g1b : k.toInt < 7)
      refine hp_s (pc' := 18) (st' := [.ref 13, .int (rI p 14 k.toInt.toNat), .int k, .ref 14]) rfl rfl rfl ?_
      refine hp_getr (k := 3) (w := .ref 16) (pc' := 21) rfl rfl rfl rfl rfl ?_
      refine hp_s (pc' := 22) (st' := [.int k, .ref 16, .int (rI p 14 k.toInt.toNat), .int k, .ref 14]) rfl rfl rfl ?_
      refine hp_ld (t := 100) (v := (rI p 16 k.toInt.toNat)) rfl (.inl rfl) rfl rfl rfl ?_
      intro (g2a : 0 ≤ k.toInt) (g2b : k.toInt < 7)
      refine hp_z (pc' := 24) (e := (rI p 14 k.toInt.toNat) ^^^ (rI p 16 k.toInt.toNat)) (st' := [.int k, .ref 14]) rfl rfl rfl ?_
      intro z1 hz1
      refine hp_st (t := 100) rfl (.inl rfl) rfl rfl ?_
      intro p1 wp1 (p1a : 0 ≤ k.toInt) (p1b : k.toInt < 7) ep1
      refine hp_inc (L := fun z => [(1, .int z), (0, .ref 13)]) (pc' := 28) rfl rfl rfl (fun _ => rfl) rfl ?_
      intro z2 hz2
      have ez2 := i_add hz2 (show k.toInt = k.toInt from rfl) (show (Int32.ofInt 1).toInt = 1 from by decide)
      refine hp_go (pc' := 2) rfl rfl rfl ?_
      refine ih _ _ (by omega) (by omega) ?_
      rw [ep1]
      refine (hO.w wp1 (by show _ < 7; omega)).eq (fun j => if_fillf (i := k.toInt.toNat) (a := 0) (b := k.toInt.toNat) (b' := z2.toInt.toNat) (f := fun j => .int (rI p0 14 j ^^^ rI p0 16 j)) (by omega) (by omega) (by omega) ?_)
      have r1 : rI p 14 k.toInt.toNat = rI p0 14 k.toInt.toNat := rI_same (by rw [hO.2]; dsimp only; rw [if_neg (by omega)])
      have r2 : rI p 16 k.toInt.toNat = rI p0 16 k.toInt.toNat := hO.int (by decide)
      show Value.int z1 = Value.int _
      rw [hz1, r1, r2]
theorem s_turnMonth {ro : List (List Int32)} {n d : Nat} {p : xH} {Q : Option Value → xH → Prop}  (pre0 : 0 ≤ (rI p 13 7).toInt) (pre1 : (rI p 13 7).toInt ≤ 7) (pre2 : 0 ≤ (rI p 13 9).toInt) (pre3 : (rI p 13 9).toInt < 100) (k0 : ∀ pA : xH, ∀ z : Int32, ∀ p2 : xH, (hOn 14 (fun j => if 0 ≤ j ∧ j < (rI p 13 7).toInt.toNat then .int (rI p 14 j ^^^ rI p 16 j) else rV p 14 j) p pA) → (z.toInt = ((rI p 13 9).toInt + 1) % 12) → (p2 = wV pA 13 9 (.int z)) → (hW pA) → Q (some (.int z)) p2) : hP ro n d (1, 2, 1, 1, k22) 0 (lv_args 0 [.ref 13]) [] p Q := by
  refine hp_id (ls := [(0, .ref 13)]) ?_
  refine hp_s (pc' := 1) (st' := [.int 0]) rfl rfl rfl ?_
  refine hp_s (pc' := 2) (ls' := [(1, .int 0), (0, .ref 13)]) (st' := []) rfl rfl rfl ?_
  refine lp_22 (p0 := p) (by omega) (by omega) (fun pA kA oA nA => ?_) n 0 _ (by decide) (by have h00 : (0 : Int32).toInt = 0 := (by decide); omega) ((hOn.refl _ _).eq (fun j => by rw [if_neg (by have h00 : (0 : Int32).toInt = 0 := (by decide); omega)]))
  refine hp_s (pc' := 32) (st' := [.ref 13]) rfl rfl rfl ?_
  refine hp_s (pc' := 33) (st' := [.ref 13, .ref 13]) rfl rfl rfl ?_
  refine hp_get (k := 9) (pc' := 36) (v := (rI pA 13 9)) rfl rfl rfl rfl rfl rfl ?_
  refine hp_s (pc' := 37) (st' := [.int 1, .int (rI pA 13 9), .ref 13]) rfl rfl rfl ?_
  refine hp_z (pc' := 38) (e := (rI pA 13 9) + 1) (st' := [.ref 13]) rfl rfl rfl ?_
  intro z1 hz1
  have ez1 := i_add hz1 (show (rI pA 13 9).toInt = (rI pA 13 9).toInt from rfl) (show (1 : Int32).toInt = 1 from by decide)
  refine hp_s (pc' := 40) (st' := [.int 12, .int z1, .ref 13]) rfl rfl rfl ?_
  refine hp_z (pc' := 41) (e := z1 - z1 / 12 * 12) (st' := [.ref 13]) rfl rfl rfl ?_
  intro z2 hz2
  have ez2 := i_rem hz2 (show z1.toInt = z1.toInt from rfl) (show (12 : Int32).toInt = 12 from by decide) (by decide)
  refine hp_put (k := 9) (pc' := 44) rfl rfl rfl rfl rfl ?_
  intro p1 wp1 ep1
  refine hp_s (pc' := 45) (st' := [.ref 13]) rfl rfl rfl ?_
  refine hp_get (k := 9) (pc' := 48) (v := z2) rfl rfl rfl rfl rfl (by rw [ep1, rI_eq wp1 (by decide)]) ?_
  refine hp_ri rfl rfl ?_
  exact k0 _ z2 _ oA (by have e9 : (rI pA 13 9).toInt = (rI p 13 9).toInt := (by rw [oA.int (by decide)]); omega) (by subst_vars; rfl) wp1
theorem X_turn {ro : List (List Int32)} {n d : Nat} {p : xH} {Q : Option Value → xH → Prop}  (pre0 : 0 ≤ (rI p 13 7).toInt) (pre1 : (rI p 13 7).toInt ≤ 7) (pre2 : 0 ≤ (rI p 13 9).toInt) (pre3 : (rI p 13 9).toInt < 100) (k0 : ∀ pA : xH, ∀ z : Int32, ∀ p2 : xH, (hOn 14 (fun j => if 0 ≤ j ∧ j < (rI p 13 7).toInt.toNat then .int (rI p 14 j ^^^ rI p 16 j) else rV p 14 j) p pA) → (z.toInt = ((rI p 13 9).toInt + 1) % 12) → (p2 = wV pA 13 9 (.int z)) → (hW pA) → Q (some (.int z)) p2) : hP ro n d (11, 1, 1, 1, k157) 0 (lv_args 0 [.ref 0]) [] p Q := by
  refine hp_id (ls := [(0, .ref 0)]) ?_
  refine hp_s (pc' := 1) (st' := [.ref 0]) rfl rfl rfl ?_
  refine hp_getr (k := 4) (w := .ref 13) (pc' := 4) rfl rfl rfl rfl rfl ?_
  refine hp_cv (r := 13) (o := 1) (kd := 1) (as := []) (rest := []) (pc' := 7) rfl rfl rfl rfl rfl rfl rfl rfl rfl (fun d1 => ?_)
  refine s_turnMonth (by first | assumption | omega) (by first | assumption | omega) (by first | assumption | omega) (by first | assumption | omega) ?_
  intro p1 y1 p2 h1 h2 h3 h4
  refine hp_id (st := [.int y1]) ?_
  refine hp_ri rfl rfl ?_
  first | (exact k0 _ _ _ (by first | assumption | omega) (by first | assumption | omega) (by first | assumption | omega) (by first | assumption | omega)) | (exfalso; omega)
theorem lp_248 {ro : List (List Int32)} {d : Nat} {Q : Option Value → xH → Prop} {p0 : xH} (g0 : 0 ≤ (rI p0 66 6).toInt) (g1 : (rI p0 66 6).toInt ≤ 7) (K : ∀ (p2 : xH) (k : Int32), hOn 67 (fun j => if 0 ≤ j ∧ j < (rI p0 66 6).toInt.toNat then .int (rI p0 67 j ^^^ rI p0 67 (14 + j)) else rV p0 67 j) p0 p2 → ∀ n, hP ro n d (12, 2, 1, 1, k248) 34 [(1, .int k), (0, .ref 66)] [] p2 Q) : ∀ (n : Nat) (k : Int32) (p : xH), (0 ≤ k.toInt) → (k.toInt ≤ (rI p0 66 6).toInt) → (hOn 67 (fun j => if 0 ≤ j ∧ j < k.toInt.toNat then .int (rI p0 67 j ^^^ rI p0 67 (14 + j)) else rV p0 67 j) p0 p) → hP ro n d (12, 2, 1, 1, k248) 2 [(1, .int k), (0, .ref 66)] [] p Q := by
  intro n
  induction n with
  | zero => intros; exact hp_0
  | succ n ih =>
    intro k p h1 h2 hO
    have e7 : (rI p 66 6).toInt = (rI p0 66 6).toInt := by rw [hO.int (by decide)]
    refine hp_s1 (pc' := 3) (st' := [.int k]) rfl rfl rfl ?_
    refine hp_s (pc' := 4) (st' := [.ref 66, .int k]) rfl rfl rfl ?_
    refine hp_get (k := 6) (pc' := 7) (v := (rI p 66 6)) rfl rfl rfl rfl rfl rfl ?_
    refine hp_ic (pc' := 10) (t := 34) (a := k.toInt) (b := (rI p 66 6).toInt) rfl rfl rfl rfl rfl (fun (h1 : (rI p 66 6).toInt ≤ k.toInt) => ?_) (fun (h2 : ¬ ((rI p 66 6).toInt ≤ k.toInt)) => ?_)
    ·
      exact K _ _ (by rw [show (rI p0 66 6).toInt.toNat = k.toInt.toNat by omega]; exact hO) n
    ·
      refine hp_s (pc' := 11) (st' := [.ref 66]) rfl rfl rfl ?_
      refine hp_getr (k := 0) (w := .ref 67) (pc' := 14) rfl rfl rfl rfl rfl ?_
      refine hp_s (pc' := 15) (st' := [.int k, .ref 67]) rfl rfl rfl ?_
      refine hp_s (pc' := 16) (st' := [.int k, .ref 67, .int k, .ref 67]) rfl rfl rfl ?_
      refine hp_ld (t := 100) (v := (rI p 67 k.toInt.toNat)) rfl (.inl rfl) rfl rfl rfl ?_
      intro (g1a : 0 ≤ k.toInt) (g1b : k.toInt < 23)
      refine hp_s (pc' := 18) (st' := [.ref 66, .int (rI p 67 k.toInt.toNat), .int k, .ref 67]) rfl rfl rfl ?_
      refine hp_getr (k := 0) (w := .ref 67) (pc' := 21) rfl rfl rfl rfl rfl ?_
      refine hp_s (pc' := 23) (st' := [.int 14, .ref 67, .int (rI p 67 k.toInt.toNat), .int k, .ref 67]) rfl rfl rfl ?_
      refine hp_s (pc' := 24) (st' := [.int k, .int 14, .ref 67, .int (rI p 67 k.toInt.toNat), .int k, .ref 67]) rfl rfl rfl ?_
      refine hp_z (pc' := 25) (e := 14 + k) (st' := [.ref 67, .int (rI p 67 k.toInt.toNat), .int k, .ref 67]) rfl rfl rfl ?_
      intro z1 hz1
      have ez1 := i_add hz1 (show (14 : Int32).toInt = 14 from by decide) (show k.toInt = k.toInt from rfl)
      refine hp_ld (t := 100) (v := (rI p 67 z1.toInt.toNat)) rfl (.inl rfl) rfl rfl rfl ?_
      intro (g2a : 0 ≤ z1.toInt) (g2b : z1.toInt < 23)
      refine hp_z (pc' := 27) (e := (rI p 67 k.toInt.toNat) ^^^ (rI p 67 z1.toInt.toNat)) (st' := [.int k, .ref 67]) rfl rfl rfl ?_
      intro z2 hz2
      refine hp_st (t := 100) rfl (.inl rfl) rfl rfl ?_
      intro p1 wp1 (p1a : 0 ≤ k.toInt) (p1b : k.toInt < 23) ep1
      refine hp_inc (L := fun z => [(1, .int z), (0, .ref 66)]) (pc' := 31) rfl rfl rfl (fun _ => rfl) rfl ?_
      intro z3 hz3
      have ez3 := i_add hz3 (show k.toInt = k.toInt from rfl) (show (Int32.ofInt 1).toInt = 1 from by decide)
      refine hp_go (pc' := 2) rfl rfl rfl ?_
      refine ih _ _ (by omega) (by omega) ?_
      rw [ep1]
      refine (hO.w wp1 (by show _ < 23; omega)).eq (fun j => if_fillf (i := k.toInt.toNat) (a := 0) (b := k.toInt.toNat) (b' := z3.toInt.toNat) (f := fun j => .int (rI p0 67 j ^^^ rI p0 67 (14 + j))) (by omega) (by omega) (by omega) ?_)
      have r1 : rI p 67 k.toInt.toNat = rI p0 67 k.toInt.toNat := rI_same (by rw [hO.2]; dsimp only; rw [if_neg (by omega)])
      have r2 : rI p 67 z1.toInt.toNat = rI p0 67 (14 + k.toInt.toNat) := by rw [show z1.toInt.toNat = 14 + k.toInt.toNat by omega]; exact rI_same (by rw [hO.2]; dsimp only; rw [if_neg (by omega)])
      show Value.int z2 = Value.int _
      rw [hz2, r1, r2]
theorem M_turn {ro : List (List Int32)} {n d : Nat} {p : xH} {Q : Option Value → xH → Prop}  (pre0 : 0 ≤ (rI p 66 6).toInt) (pre1 : (rI p 66 6).toInt ≤ 7) (pre2 : 0 ≤ (rI p 67 22).toInt) (pre3 : (rI p 67 22).toInt < 100) (k0 : ∀ pA : xH, ∀ z : Int32, ∀ p2 : xH, (hOn 67 (fun j => if 0 ≤ j ∧ j < (rI p 66 6).toInt.toNat then .int (rI p 67 j ^^^ rI p 67 (14 + j)) else rV p 67 j) p pA) → (z.toInt = ((rI p 67 22).toInt + 1) % 12) → (p2 = wV pA 67 22 (.int z)) → (hW pA) → Q (some (.int z)) p2) : hP ro n d (12, 2, 1, 1, k248) 0 (lv_args 0 [.ref 66]) [] p Q := by
  refine hp_id (ls := [(0, .ref 66)]) ?_
  refine hp_s (pc' := 1) (st' := [.int 0]) rfl rfl rfl ?_
  refine hp_s (pc' := 2) (ls' := [(1, .int 0), (0, .ref 66)]) (st' := []) rfl rfl rfl ?_
  refine lp_248 (p0 := p) (by omega) (by omega) (fun pA kA oA nA => ?_) n 0 _ (by decide) (by have h00 : (0 : Int32).toInt = 0 := (by decide); omega) ((hOn.refl _ _).eq (fun j => by rw [if_neg (by have h00 : (0 : Int32).toInt = 0 := (by decide); omega)]))
  refine hp_s (pc' := 35) (st' := [.ref 66]) rfl rfl rfl ?_
  refine hp_getr (k := 0) (w := .ref 67) (pc' := 38) rfl rfl rfl rfl rfl ?_
  refine hp_s (pc' := 40) (st' := [.int 22, .ref 67]) rfl rfl rfl ?_
  refine hp_s (pc' := 41) (st' := [.ref 66, .int 22, .ref 67]) rfl rfl rfl ?_
  refine hp_getr (k := 0) (w := .ref 67) (pc' := 44) rfl rfl rfl rfl rfl ?_
  refine hp_s (pc' := 46) (st' := [.int 22, .ref 67, .int 22, .ref 67]) rfl rfl rfl ?_
  refine hp_ld (t := 100) (v := (rI pA 67 22)) rfl (.inl rfl) rfl rfl rfl ?_
  intro (g1a : 0 ≤ (22 : Int32).toInt) (g1b : (22 : Int32).toInt < 23)
  refine hp_s (pc' := 48) (st' := [.int 1, .int (rI pA 67 22), .int 22, .ref 67]) rfl rfl rfl ?_
  refine hp_z (pc' := 49) (e := (rI pA 67 22) + 1) (st' := [.int 22, .ref 67]) rfl rfl rfl ?_
  intro z1 hz1
  have ez1 := i_add hz1 (show (rI pA 67 22).toInt = (rI pA 67 22).toInt from rfl) (show (1 : Int32).toInt = 1 from by decide)
  refine hp_s (pc' := 51) (st' := [.int 12, .int z1, .int 22, .ref 67]) rfl rfl rfl ?_
  refine hp_z (pc' := 52) (e := z1 - z1 / 12 * 12) (st' := [.int 22, .ref 67]) rfl rfl rfl ?_
  intro z2 hz2
  have ez2 := i_rem hz2 (show z1.toInt = z1.toInt from rfl) (show (12 : Int32).toInt = 12 from by decide) (by decide)
  refine hp_st (t := 100) rfl (.inl rfl) rfl rfl ?_
  intro p1 wp1 (p1a : 0 ≤ (22 : Int32).toInt) (p1b : (22 : Int32).toInt < 23) ep1
  refine hp_s (pc' := 54) (st' := [.ref 66]) rfl rfl rfl ?_
  refine hp_getr (k := 0) (w := .ref 67) (pc' := 57) rfl rfl rfl rfl rfl ?_
  refine hp_s (pc' := 59) (st' := [.int 22, .ref 67]) rfl rfl rfl ?_
  refine hp_ld (t := 100) (v := z2) rfl (.inl rfl) rfl rfl (by rw [ep1, rI_eq wp1 (by show _ < 23; omega)]) ?_
  intro (g2a : 0 ≤ (22 : Int32).toInt) (g2b : (22 : Int32).toInt < 23)
  refine hp_ri rfl rfl ?_
  exact k0 _ z2 _ oA (by have e9 : (rI pA 67 22).toInt = (rI p 67 22).toInt := (by rw [rI_same (p' := p) (r' := 67) (k' := 22) (by rw [oA.2]; dsimp only; rw [if_neg (by omega)])]); omega) (by subst_vars; rfl) wp1
theorem s_mayWear {ro : List (List Int32)} {n d : Nat} {p : xH} {Q : Option Value → xH → Prop} {x : Int32} {xi : Int} {y : Int32} {yi : Int} (hx : x.toInt = xi) (hy : y.toInt = yi)  (k0 : (hWr (rI p 15 xi.toNat) y) → Q (some (.int (1))) p) (k1 : (¬ hWr (rI p 15 xi.toNat) y) → Q (some (.int (0))) p) : hP ro n d (1, 3, 1, 2, k15) 0 (lv_args 0 [.ref 13, .int x, .int y]) [] p Q := by
  subst hx
  subst hy
  refine hp_id (ls := [(0, .ref 13), (1, .int x), (2, .int y)]) ?_
  refine hp_s (pc' := 1) (st' := [.int y]) rfl rfl rfl ?_
  refine hp_s (pc' := 2) (st' := [.int (-1), .int y]) rfl rfl rfl ?_
  refine hp_ic (pc' := 5) (t := 7) (a := y.toInt) (b := (-1)) rfl rfl rfl rfl (by decide) (fun (h1 : y.toInt ≠ (-1)) => ?_) (fun (h2 : ¬ (y.toInt ≠ (-1))) => ?_)
  ·
    refine hp_s (pc' := 8) (st' := [.int y]) rfl rfl rfl ?_
    refine hp_if (pc' := 11) (t := 35) (a := y.toInt) rfl rfl rfl rfl (fun (h3 : y.toInt < 0) => ?_) (fun (h4 : ¬ (y.toInt < 0)) => ?_)
    ·
      refine hp_s (pc' := 36) (st' := [.int 0]) rfl rfl rfl ?_
      refine hp_rb rfl rfl (fun _ => ?_)
      first | (exact k1 (by first | assumption | omega | (subst_vars; unfold hWr; omega) | (subst_vars; unfold hWr at *; omega))) | (exfalso; omega)
    ·
      refine hp_s (pc' := 12) (st' := [.int y]) rfl rfl rfl ?_
      refine hp_s (pc' := 14) (st' := [.int 6, .int y]) rfl rfl rfl ?_
      refine hp_ic (pc' := 17) (t := 35) (a := y.toInt) (b := 6) rfl rfl rfl rfl (by decide) (fun (h5 : 6 ≤ y.toInt) => ?_) (fun (h6 : ¬ (6 ≤ y.toInt)) => ?_)
      ·
        refine hp_s (pc' := 36) (st' := [.int 0]) rfl rfl rfl ?_
        refine hp_rb rfl rfl (fun _ => ?_)
        first | (exact k1 (by first | assumption | omega | (subst_vars; unfold hWr; omega) | (subst_vars; unfold hWr at *; omega))) | (exfalso; omega)
      ·
        refine hp_s (pc' := 18) (st' := [.ref 13]) rfl rfl rfl ?_
        refine hp_getr (k := 2) (w := .ref 15) (pc' := 21) rfl rfl rfl rfl rfl ?_
        refine hp_s (pc' := 22) (st' := [.int x, .ref 15]) rfl rfl rfl ?_
        refine hp_ld (t := 100) (v := (rI p 15 x.toInt.toNat)) rfl (.inl rfl) rfl rfl rfl ?_
        intro (g1a : 0 ≤ x.toInt) (g1b : x.toInt < 7)
        refine hp_s (pc' := 24) (st' := [.int y, .int (rI p 15 x.toInt.toNat)]) rfl rfl rfl ?_
        refine hp_z (pc' := 25) (e := (rI p 15 x.toInt.toNat) >>> (y &&& 31)) (st' := []) rfl rfl rfl ?_
        intro z1 hz1
        refine hp_s (pc' := 26) (st' := [.int 1, .int z1]) rfl rfl rfl ?_
        refine hp_z (pc' := 27) (e := z1 &&& 1) (st' := []) rfl rfl rfl ?_
        intro z2 hz2
        refine hp_s (pc' := 28) (st' := [.int 1, .int z2]) rfl rfl rfl ?_
        refine hp_ic (pc' := 31) (t := 35) (a := z2.toInt) (b := 1) rfl rfl rfl rfl (by decide) (fun (h7 : z2.toInt ≠ 1) => ?_) (fun (h8 : ¬ (z2.toInt ≠ 1)) => ?_)
        ·
          refine hp_s (pc' := 36) (st' := [.int 0]) rfl rfl rfl ?_
          refine hp_rb rfl rfl (fun _ => ?_)
          first | (exact k1 (by first | assumption | omega | (subst_vars; unfold hWr; omega) | (subst_vars; unfold hWr at *; omega))) | (exfalso; omega)
        ·
          refine hp_s (pc' := 32) (st' := [.int 1]) rfl rfl rfl ?_
          refine hp_go (pc' := 36) rfl rfl rfl ?_
          refine hp_rb rfl rfl (fun _ => ?_)
          first | (exact k0 (by first | assumption | omega | (subst_vars; unfold hWr; omega) | (subst_vars; unfold hWr at *; omega))) | (exfalso; omega)
  ·
    refine hp_s (pc' := 6) (st' := [.int 1]) rfl rfl rfl ?_
    refine hp_rb rfl rfl (fun _ => ?_)
    first | (exact k0 (by first | assumption | omega | (subst_vars; unfold hWr; omega) | (subst_vars; unfold hWr at *; omega))) | (exfalso; omega)
theorem s_hatOf {ro : List (List Int32)} {n d : Nat} {p : xH} {Q : Option Value → xH → Prop} {x : Int32} {xi : Int} (hx : x.toInt = xi)  (k0 : (0 ≤ xi) → (xi < 7) → Q (some (.int (rI p 2 xi.toNat))) p) : hP ro n d (1, 2, 1, 1, k14) 0 (lv_args 0 [.ref 13, .int x]) [] p Q := by
  subst hx
  refine hp_id (ls := [(0, .ref 13), (1, .int x)]) ?_
  refine hp_s (pc' := 1) (st' := [.ref 13]) rfl rfl rfl ?_
  refine hp_getr (k := 0) (w := .ref 1) (pc' := 4) rfl rfl rfl rfl rfl ?_
  refine hp_getr (k := 0) (w := .ref 2) (pc' := 7) rfl rfl rfl rfl rfl ?_
  refine hp_s (pc' := 8) (st' := [.int x, .ref 2]) rfl rfl rfl ?_
  refine hp_ld (t := 100) (v := (rI p 2 x.toInt.toNat)) rfl (.inl rfl) rfl rfl rfl ?_
  intro (g1a : 0 ≤ x.toInt) (g1b : x.toInt < 7)
  refine hp_ri rfl rfl ?_
  first | (exact k0 (by first | assumption | omega) (by first | assumption | omega)) | (exfalso; omega)
theorem X_hat {ro : List (List Int32)} {n d : Nat} {p : xH} {Q : Option Value → xH → Prop} {x : Int32} {xi : Int} {y : Int32} {yi : Int} (hx : x.toInt = xi) (hy : y.toInt = yi)  (k0 : (¬ (0 ≤ xi ∧ xi < (rI p 13 7).toInt ∧ hWr (rI p 15 xi.toNat) y)) → Q (some (.int (-2000000000))) p) (k1 : ∀ p2 : xH, p2 = (wV p 2 xi.toNat (.int y)) → (0 ≤ xi) → (xi < (rI p 13 7).toInt) → (hWr (rI p 15 xi.toNat) y) → Q (some (.int (rI p 2 xi.toNat))) p2) : hP ro n d (11, 4, 1, 1, k130) 0 (lv_args 0 [.ref 0, .int x, .int y]) [] p Q := by
  subst hx
  subst hy
  refine hp_id (ls := [(0, .ref 0), (1, .int x), (2, .int y)]) ?_
  refine hp_s (pc' := 1) (st' := [.ref 0]) rfl rfl rfl ?_
  refine hp_getr (k := 4) (w := .ref 13) (pc' := 4) rfl rfl rfl rfl rfl ?_
  refine hp_s (pc' := 5) (st' := [.int x, .ref 13]) rfl rfl rfl ?_
  refine hp_cv (r := 13) (o := 1) (kd := 1) (as := [.int x]) (rest := []) (pc' := 8) rfl rfl rfl rfl rfl rfl rfl rfl rfl (fun d1 => ?_)
  refine s_has (xi := x.toInt) rfl ?_ ?_
  ·
    intro h1 h2
    refine hp_id (st := [.int 1]) ?_
    refine hp_go (pc' := 11) rfl rfl rfl ?_
    refine hp_s (pc' := 12) (st' := [.ref 0]) rfl rfl rfl ?_
    refine hp_getr (k := 4) (w := .ref 13) (pc' := 15) rfl rfl rfl rfl rfl ?_
    refine hp_s (pc' := 16) (st' := [.int x, .ref 13]) rfl rfl rfl ?_
    refine hp_s (pc' := 17) (st' := [.int y, .int x, .ref 13]) rfl rfl rfl ?_
    refine hp_cv (r := 13) (o := 1) (kd := 1) (as := [.int x, .int y]) (rest := []) (pc' := 20) rfl rfl rfl rfl rfl rfl rfl rfl rfl (fun d2 => ?_)
    refine s_mayWear (xi := x.toInt) rfl (yi := y.toInt) rfl ?_ ?_
    ·
      intro h3
      refine hp_id (st := [.int 1]) ?_
      refine hp_go (pc' := 26) rfl rfl rfl ?_
      refine hp_s (pc' := 27) (st' := [.ref 0]) rfl rfl rfl ?_
      refine hp_getr (k := 4) (w := .ref 13) (pc' := 30) rfl rfl rfl rfl rfl ?_
      refine hp_s (pc' := 31) (st' := [.int x, .ref 13]) rfl rfl rfl ?_
      refine hp_cv (r := 13) (o := 1) (kd := 1) (as := [.int x]) (rest := []) (pc' := 34) rfl rfl rfl rfl rfl rfl rfl rfl rfl (fun d3 => ?_)
      refine s_hatOf (xi := x.toInt) rfl ?_
      intro h4 h5
      refine hp_id (st := [.int (rI p 2 x.toInt.toNat)]) ?_
      refine hp_s (pc' := 35) (ls' := [(3, .int (rI p 2 x.toInt.toNat)), (0, .ref 0), (1, .int x), (2, .int y)]) (st' := []) rfl rfl rfl ?_
      refine hp_s (pc' := 36) (st' := [.ref 0]) rfl rfl rfl ?_
      refine hp_getr (k := 0) (w := .ref 1) (pc' := 39) rfl rfl rfl rfl rfl ?_
      refine hp_getr (k := 0) (w := .ref 2) (pc' := 42) rfl rfl rfl rfl rfl ?_
      refine hp_s (pc' := 43) (st' := [.int x, .ref 2]) rfl rfl rfl ?_
      refine hp_s (pc' := 44) (st' := [.int y, .int x, .ref 2]) rfl rfl rfl ?_
      refine hp_st (t := 100) rfl (.inl rfl) rfl rfl ?_
      intro p1 wp1 (p1a : 0 ≤ x.toInt) (p1b : x.toInt < 7) ep1
      refine hp_s (pc' := 46) (st' := [.int (rI p 2 x.toInt.toNat)]) rfl rfl rfl ?_
      refine hp_ri rfl rfl ?_
      first | (exact k0 (by first | assumption | omega | (intro z; exact absurd z.2.2 (by assumption)) | (intro z; omega))) | (exact k1 _ (by subst_vars; rfl) (by first | assumption | omega | (intro z; exact absurd z.2.2 (by assumption)) | (intro z; omega)) (by first | assumption | omega | (intro z; exact absurd z.2.2 (by assumption)) | (intro z; omega)) (by first | assumption | omega | (intro z; exact absurd z.2.2 (by assumption)) | (intro z; omega))) | (exfalso; omega)
    ·
      intro h6
      refine hp_id (st := [.int 0]) ?_
      refine hp_go (pc' := 23) rfl rfl rfl ?_
      refine hp_s (pc' := 25) (st' := [.int (-2000000000)]) rfl rfl rfl ?_
      refine hp_ri rfl rfl ?_
      first | (exact k0 (by first | assumption | omega | (intro z; exact absurd z.2.2 (by assumption)) | (intro z; omega))) | (exact k1 _ (by subst_vars; rfl) (by first | assumption | omega | (intro z; exact absurd z.2.2 (by assumption)) | (intro z; omega)) (by first | assumption | omega | (intro z; exact absurd z.2.2 (by assumption)) | (intro z; omega)) (by first | assumption | omega | (intro z; exact absurd z.2.2 (by assumption)) | (intro z; omega))) | (exfalso; omega)
  ·
    intro h7
    refine hp_id (st := [.int 0]) ?_
    refine hp_go (pc' := 23) rfl rfl rfl ?_
    refine hp_s (pc' := 25) (st' := [.int (-2000000000)]) rfl rfl rfl ?_
    refine hp_ri rfl rfl ?_
    first | (exact k0 (by first | assumption | omega | (intro z; exact absurd z.2.2 (by assumption)) | (intro z; omega))) | (exact k1 _ (by subst_vars; rfl) (by first | assumption | omega | (intro z; exact absurd z.2.2 (by assumption)) | (intro z; omega)) (by first | assumption | omega | (intro z; exact absurd z.2.2 (by assumption)) | (intro z; omega)) (by first | assumption | omega | (intro z; exact absurd z.2.2 (by assumption)) | (intro z; omega))) | (exfalso; omega)
theorem s_isIn {ro : List (List Int32)} {n d : Nat} {p : xH} {Q : Option Value → xH → Prop} {x : Int32} {xi : Int} {y : Int32} {yi : Int} (hx : x.toInt = xi) (hy : y.toInt = yi)  (k0 : ((x >>> (y &&& 31) &&& 1).toInt = 1) → Q (some (.int (1))) p) (k1 : (¬ ((x >>> (y &&& 31) &&& 1).toInt = 1)) → Q (some (.int (0))) p) : hP ro n d (12, 2, 0, 2, k176) 0 (lv_args 0 [.int x, .int y]) [] p Q := by
  subst hx
  subst hy
  refine hp_id (ls := [(0, .int x), (1, .int y)]) ?_
  refine hp_s (pc' := 1) (st' := [.int x]) rfl rfl rfl ?_
  refine hp_s (pc' := 2) (st' := [.int y, .int x]) rfl rfl rfl ?_
  refine hp_z (pc' := 3) (e := x >>> (y &&& 31)) (st' := []) rfl rfl rfl ?_
  intro z1 hz1
  refine hp_s (pc' := 4) (st' := [.int 1, .int z1]) rfl rfl rfl ?_
  refine hp_z (pc' := 5) (e := z1 &&& 1) (st' := []) rfl rfl rfl ?_
  intro z2 hz2
  refine hp_s (pc' := 6) (st' := [.int 1, .int z2]) rfl rfl rfl ?_
  refine hp_ic (pc' := 9) (t := 13) (a := z2.toInt) (b := 1) rfl rfl rfl rfl (by decide) (fun (h1 : z2.toInt ≠ 1) => ?_) (fun (h2 : ¬ (z2.toInt ≠ 1)) => ?_)
  ·
    refine hp_s (pc' := 14) (st' := [.int 0]) rfl rfl rfl ?_
    refine hp_rb rfl rfl (fun _ => ?_)
    first | (exact k1 (by first | assumption | (subst_vars; omega))) | (exfalso; omega)
  ·
    refine hp_s (pc' := 10) (st' := [.int 1]) rfl rfl rfl ?_
    refine hp_go (pc' := 14) rfl rfl rfl ?_
    refine hp_rb rfl rfl (fun _ => ?_)
    first | (exact k0 (by first | assumption | (subst_vars; omega))) | (exfalso; omega)
theorem M_hat {ro : List (List Int32)} {n d : Nat} {p : xH} {Q : Option Value → xH → Prop} {x : Int32} {xi : Int} {y : Int32} {yi : Int} (hx : x.toInt = xi) (hy : y.toInt = yi) (pre0 : 0 ≤ (rI p 66 6).toInt) (pre1 : (rI p 66 6).toInt ≤ 7) (k0 : (¬ (0 ≤ xi ∧ xi < (rI p 66 6).toInt ∧ hWr (rI p 67 (7 + xi).toNat) y)) → Q (some (.int (-2000000000))) p) (k1 : ∀ p2 : xH, p2 = (wV p 71 xi.toNat (.int y)) → (0 ≤ xi) → (xi < (rI p 66 6).toInt) → (hWr (rI p 67 (7 + xi).toNat) y) → Q (some (.int (rI p 71 xi.toNat))) p2) : hP ro n d (12, 4, 1, 1, k189) 0 (lv_args 0 [.ref 66, .int x, .int y]) [] p Q := by
  subst hx
  subst hy
  refine hp_id (ls := [(0, .ref 66), (1, .int x), (2, .int y)]) ?_
  refine hp_s (pc' := 1) (st' := [.ref 66]) rfl rfl rfl ?_
  refine hp_s (pc' := 2) (st' := [.int x, .ref 66]) rfl rfl rfl ?_
  refine hp_cv (r := 66) (o := 12) (kd := 1) (as := [.int x]) (rest := []) (pc' := 5) rfl rfl rfl rfl rfl rfl rfl rfl rfl (fun d1 => ?_)
  refine s_isPerson (xi := x.toInt) rfl (by first | assumption | omega) ?_ ?_
  ·
    intro h1 h2
    refine hp_id (st := [.int 1]) ?_
    refine hp_go (pc' := 8) rfl rfl rfl ?_
    refine hp_s (pc' := 9) (st' := [.int y]) rfl rfl rfl ?_
    refine hp_s (pc' := 10) (st' := [.int (-1), .int y]) rfl rfl rfl ?_
    refine hp_ic (pc' := 13) (t := 44) (a := y.toInt) (b := (-1)) rfl rfl rfl rfl (by decide) (fun (h3 : y.toInt = (-1)) => ?_) (fun (h4 : ¬ (y.toInt = (-1))) => ?_)
    ·
      refine hp_s (pc' := 45) (st' := [.ref 66]) rfl rfl rfl ?_
      refine hp_getr (k := 7) (w := .ref 71) (pc' := 48) rfl rfl rfl rfl rfl ?_
      refine hp_s (pc' := 49) (st' := [.int x, .ref 71]) rfl rfl rfl ?_
      refine hp_ld (t := 100) (v := (rI p 71 x.toInt.toNat)) rfl (.inl rfl) rfl rfl rfl ?_
      intro (g1a : 0 ≤ x.toInt) (g1b : x.toInt < 7)
      refine hp_s (pc' := 51) (ls' := [(3, .int (rI p 71 x.toInt.toNat)), (0, .ref 66), (1, .int x), (2, .int y)]) (st' := []) rfl rfl rfl ?_
      refine hp_s (pc' := 52) (st' := [.ref 66]) rfl rfl rfl ?_
      refine hp_getr (k := 7) (w := .ref 71) (pc' := 55) rfl rfl rfl rfl rfl ?_
      refine hp_s (pc' := 56) (st' := [.int x, .ref 71]) rfl rfl rfl ?_
      refine hp_s (pc' := 57) (st' := [.int y, .int x, .ref 71]) rfl rfl rfl ?_
      refine hp_st (t := 100) rfl (.inl rfl) rfl rfl ?_
      intro p1 wp1 (p1a : 0 ≤ x.toInt) (p1b : x.toInt < 7) ep1
      refine hp_s (pc' := 59) (st' := [.int (rI p 71 x.toInt.toNat)]) rfl rfl rfl ?_
      refine hp_ri rfl rfl ?_
      first | (exact k0 (by first | assumption | omega | (unfold hWr; omega) | (rw [q7] at *; unfold hWr at *; omega))) | (exact k1 _ (by subst_vars; rfl) (by first | assumption | omega | (unfold hWr; omega) | (rw [q7] at *; unfold hWr at *; omega)) (by first | assumption | omega | (unfold hWr; omega) | (rw [q7] at *; unfold hWr at *; omega)) (by first | assumption | omega | (unfold hWr; omega) | (rw [q7] at *; unfold hWr at *; omega))) | (exfalso; omega)
    ·
      refine hp_s (pc' := 14) (st' := [.int y]) rfl rfl rfl ?_
      refine hp_i2l (pc' := 15) rfl rfl ?_
      intro z1 hz1 ez1
      refine hp_s (pc' := 16) (st' := [.long 0, .long z1]) rfl rfl rfl ?_
      refine hp_s (pc' := 19) (st' := [.long 5, .long 0, .long z1]) rfl rfl rfl ?_
      refine hp_cs (kd := 0) (as := [.long z1, .long 0, .long 5]) (rest := []) (pc' := 22) rfl rfl rfl rfl rfl rfl rfl (fun d2 => ?_)
      refine s_within (vi := y.toInt) ez1 (ai := 0) (by decide) (bi := 5) (by decide) ?_ ?_
      ·
        intro h5 h6
        refine hp_id (st := [.int 1]) ?_
        refine hp_go (pc' := 25) rfl rfl rfl ?_
        refine hp_s (pc' := 26) (st' := [.ref 66]) rfl rfl rfl ?_
        refine hp_getr (k := 0) (w := .ref 67) (pc' := 29) rfl rfl rfl rfl rfl ?_
        refine hp_s (pc' := 31) (st' := [.int 7, .ref 67]) rfl rfl rfl ?_
        refine hp_s (pc' := 32) (st' := [.int x, .int 7, .ref 67]) rfl rfl rfl ?_
        refine hp_z (pc' := 33) (e := 7 + x) (st' := [.ref 67]) rfl rfl rfl ?_
        intro z2 hz2
        have ez2 := i_add hz2 (show (7 : Int32).toInt = 7 from by decide) (show x.toInt = x.toInt from rfl)
        refine hp_ld (t := 100) (v := (rI p 67 z2.toInt.toNat)) rfl (.inl rfl) rfl rfl rfl ?_
        intro (g2a : 0 ≤ z2.toInt) (g2b : z2.toInt < 23)
        have q7 : (rI p 67 z2.toInt.toNat) = rI p 67 (7 + x.toInt).toNat := by congr 1; omega
        refine hp_s (pc' := 35) (st' := [.int y, .int (rI p 67 z2.toInt.toNat)]) rfl rfl rfl ?_
        refine hp_cs (kd := 0) (as := [.int (rI p 67 z2.toInt.toNat), .int y]) (rest := []) (pc' := 38) rfl rfl rfl rfl rfl rfl rfl (fun d3 => ?_)
        refine s_isIn (xi := (rI p 67 z2.toInt.toNat).toInt) rfl (yi := y.toInt) rfl ?_ ?_
        ·
          intro h7
          refine hp_id (st := [.int 1]) ?_
          refine hp_go (pc' := 44) rfl rfl rfl ?_
          refine hp_s (pc' := 45) (st' := [.ref 66]) rfl rfl rfl ?_
          refine hp_getr (k := 7) (w := .ref 71) (pc' := 48) rfl rfl rfl rfl rfl ?_
          refine hp_s (pc' := 49) (st' := [.int x, .ref 71]) rfl rfl rfl ?_
          refine hp_ld (t := 100) (v := (rI p 71 x.toInt.toNat)) rfl (.inl rfl) rfl rfl rfl ?_
          intro (g3a : 0 ≤ x.toInt) (g3b : x.toInt < 7)
          refine hp_s (pc' := 51) (ls' := [(3, .int (rI p 71 x.toInt.toNat)), (0, .ref 66), (1, .int x), (2, .int y)]) (st' := []) rfl rfl rfl ?_
          refine hp_s (pc' := 52) (st' := [.ref 66]) rfl rfl rfl ?_
          refine hp_getr (k := 7) (w := .ref 71) (pc' := 55) rfl rfl rfl rfl rfl ?_
          refine hp_s (pc' := 56) (st' := [.int x, .ref 71]) rfl rfl rfl ?_
          refine hp_s (pc' := 57) (st' := [.int y, .int x, .ref 71]) rfl rfl rfl ?_
          refine hp_st (t := 100) rfl (.inl rfl) rfl rfl ?_
          intro p2 wp2 (p2a : 0 ≤ x.toInt) (p2b : x.toInt < 7) ep2
          refine hp_s (pc' := 59) (st' := [.int (rI p 71 x.toInt.toNat)]) rfl rfl rfl ?_
          refine hp_ri rfl rfl ?_
          first | (exact k0 (by first | assumption | omega | (unfold hWr; omega) | (rw [q7] at *; unfold hWr at *; omega))) | (exact k1 _ (by subst_vars; rfl) (by first | assumption | omega | (unfold hWr; omega) | (rw [q7] at *; unfold hWr at *; omega)) (by first | assumption | omega | (unfold hWr; omega) | (rw [q7] at *; unfold hWr at *; omega)) (by first | assumption | omega | (unfold hWr; omega) | (rw [q7] at *; unfold hWr at *; omega))) | (exfalso; omega)
        ·
          intro h8
          refine hp_id (st := [.int 0]) ?_
          refine hp_go (pc' := 41) rfl rfl rfl ?_
          refine hp_s (pc' := 43) (st' := [.int (-2000000000)]) rfl rfl rfl ?_
          refine hp_ri rfl rfl ?_
          first | (exact k0 (by first | assumption | omega | (unfold hWr; omega) | (rw [q7] at *; unfold hWr at *; omega))) | (exact k1 _ (by subst_vars; rfl) (by first | assumption | omega | (unfold hWr; omega) | (rw [q7] at *; unfold hWr at *; omega)) (by first | assumption | omega | (unfold hWr; omega) | (rw [q7] at *; unfold hWr at *; omega)) (by first | assumption | omega | (unfold hWr; omega) | (rw [q7] at *; unfold hWr at *; omega))) | (exfalso; omega)
      ·
        intro h9
        refine hp_id (st := [.int 0]) ?_
        refine hp_go (pc' := 41) rfl rfl rfl ?_
        refine hp_s (pc' := 43) (st' := [.int (-2000000000)]) rfl rfl rfl ?_
        refine hp_ri rfl rfl ?_
        first | (exact k0 (by first | assumption | omega | (unfold hWr; omega) | (rw [q7] at *; unfold hWr at *; omega))) | (exact k1 _ (by subst_vars; rfl) (by first | assumption | omega | (unfold hWr; omega) | (rw [q7] at *; unfold hWr at *; omega)) (by first | assumption | omega | (unfold hWr; omega) | (rw [q7] at *; unfold hWr at *; omega)) (by first | assumption | omega | (unfold hWr; omega) | (rw [q7] at *; unfold hWr at *; omega))) | (exfalso; omega)
  ·
    intro h10
    refine hp_id (st := [.int 0]) ?_
    refine hp_go (pc' := 41) rfl rfl rfl ?_
    refine hp_s (pc' := 43) (st' := [.int (-2000000000)]) rfl rfl rfl ?_
    refine hp_ri rfl rfl ?_
    first | (exact k0 (by first | assumption | omega | (unfold hWr; omega) | (rw [q7] at *; unfold hWr at *; omega))) | (exact k1 _ (by subst_vars; rfl) (by first | assumption | omega | (unfold hWr; omega) | (rw [q7] at *; unfold hWr at *; omega)) (by first | assumption | omega | (unfold hWr; omega) | (rw [q7] at *; unfold hWr at *; omega)) (by first | assumption | omega | (unfold hWr; omega) | (rw [q7] at *; unfold hWr at *; omega))) | (exfalso; omega)
