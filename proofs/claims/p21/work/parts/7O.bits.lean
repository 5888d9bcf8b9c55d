/-! contracts of methods, walked -/
/-- a bit -/
def bI (z : Int32) (k : Nat) : Bool := z.toBitVec.getLsbD k
theorem bI_ext {x y : Int32} (h : ∀ k, k < 32 → bI x k = bI y k) : x = y := by
  apply Int32.toBitVec_inj.mp
  exact BitVec.eq_of_getLsbD_eq (fun k hk => h k hk)
theorem bI_or (x y : Int32) (k : Nat) : bI (x ||| y) k = (bI x k || bI y k) := by
  unfold bI
  rw [Int32.toBitVec_or, BitVec.getLsbD_or]
theorem bI_and (x y : Int32) (k : Nat) : bI (x &&& y) k = (bI x k && bI y k) := by
  unfold bI
  rw [Int32.toBitVec_and, BitVec.getLsbD_and]
theorem bI_xor (x y : Int32) (k : Nat) : bI (x ^^^ y) k = (bI x k ^^ bI y k) := by
  unfold bI
  rw [Int32.toBitVec_xor, BitVec.getLsbD_xor]
theorem bI_0 (k : Nat) : bI 0 k = false := by
  unfold bI
  exact BitVec.getLsbD_zero
theorem bI_m1 {k : Nat} (h : k < 32) : bI (-1) k = true := (show ∀ k, k < 32 → bI (-1) k = true from by decide +kernel) k h
theorem bI_no (x : Int32) {k : Nat} (h : k < 32) : bI (x ^^^ (-1)) k = !bI x k := by
  rw [bI_xor, bI_m1 h, Bool.xor_true]
theorem sm_32 : ∀ k : Nat, k < 32 → ((Int32.ofNat k &&& 31).toBitVec.smod 32).toNat = k := by decide +kernel
theorem i_k {q : Int32} {k : Nat} (h : q.toInt = k) : q = Int32.ofNat k := by
  apply Int32.toInt_inj.mp
  have := j32 q
  rw [Int32.toInt_ofNat_of_lt (by omega), h]
theorem bI_shl (x : Int32) {q : Int32} {j k : Nat} (h : q.toInt = j) (hj : j < 32) (hk : k < 32) : bI (x <<< (q &&& 31)) k = (!decide (k < j) && bI x (k - j)) := by
  rw [i_k h]
  unfold bI
  show (x.toBitVec <<< ((Int32.ofNat j &&& 31).toBitVec.smod 32)).getLsbD k = _
  rw [BitVec.shiftLeft_eq', sm_32 j hj, BitVec.getLsbD_shiftLeft]
  rw [decide_eq_true (show k < 32 from hk), Bool.true_and]
theorem bI_1 : ∀ k, k < 32 → bI 1 k = decide (k = 0) := by decide +kernel
theorem bI_p {q : Int32} {j k : Nat} (h : q.toInt = j) (hj : j < 32) (hk : k < 32) : bI ((1 : Int32) <<< (q &&& 31)) k = decide (k = j) := by
  rw [bI_shl 1 h hj hk, bI_1 _ (by omega)]
  by_cases g : k < j
  · rw [decide_eq_true g, decide_eq_false (show ¬ (k = j) by omega)]; rfl
  · rw [decide_eq_false g, Bool.not_false, Bool.true_and]
    exact decide_eq_decide.mpr (by omega)
theorem bI_sr (x : Int32) {q : Int32} {j k : Nat} (h : q.toInt = j) (hj : j < 32) (hk : j + k < 32) : bI (x >>> (q &&& 31)) k = bI x (j + k) := by
  rw [i_k h]
  unfold bI
  show (x.toBitVec.sshiftRight' ((Int32.ofNat j &&& 31).toBitVec.smod 32)).getLsbD k = _
  rw [BitVec.sshiftRight_eq', sm_32 j hj, BitVec.getLsbD_sshiftRight, if_pos hk, decide_eq_false (by omega)]
  rfl
theorem bI_low {x : Int32} : (x &&& 1).toInt = if bI x 0 then 1 else 0 := by
  have e : x &&& 1 = if bI x 0 then 1 else 0 := by
    apply bI_ext
    intro k hk
    rw [bI_and, bI_1 k hk]
    by_cases g : k = 0
    · subst g
      cases h : bI x 0 with
      | true => rfl
      | false => rfl
    · rw [decide_eq_false g, Bool.and_false]
      cases h : bI x 0 with
      | true => rw [if_pos rfl, bI_1 k hk, decide_eq_false g]
      | false => rw [if_neg (by decide), bI_0]
  rw [e]
  cases bI x 0 <;> rfl
theorem bI_at (x : Int32) {q : Int32} {j : Nat} (h : q.toInt = j) (hj : j < 32) : ((x >>> (q &&& 31)) &&& 1).toInt = if bI x j then 1 else 0 := by
  rw [bI_low, bI_sr x h hj (by omega), Nat.add_zero]
theorem bI_zero {x : Int32} : x = 0 ↔ ∀ k, k < 32 → bI x k = false := ⟨fun h k _ => by rw [h, bI_0], fun h => bI_ext (fun k hk => by rw [h k hk, bI_0])⟩
/-- a row of bits, by a relation -/
def hLk (P : Nat → Nat → Prop) (S n : Nat) (z : Int32) : Prop := ∀ k, k < 32 → (bI z k = true ↔ k < S ∧ n ≠ k ∧ P n k)
theorem bI_iff {x y : Int32} {k : Nat} (h : bI x k = true ↔ bI y k = true) : bI x k = bI y k := by
  cases hx : bI x k with
  | true => exact (h.mp hx).symm
  | false =>
    cases hy : bI y k with
    | true => rw [h.mpr hy] at hx; cases hx
    | false => rfl
theorem hLk_one {P P' : Nat → Nat → Prop} {S n : Nat} {x y : Int32} (hS : S ≤ 32) (e : ∀ k, k < S → n ≠ k → (P n k ↔ P' n k)) (h : hLk P S n x) (g : hLk P' S n y) : x = y := bI_ext (fun k hk => bI_iff (by
  rw [h k hk, g k hk]
  exact ⟨fun ⟨a, b, c⟩ => ⟨a, b, (e k a b).mp c⟩, fun ⟨a, b, c⟩ => ⟨a, b, (e k a b).mpr c⟩⟩))
/-- hats that are worn, looks -/
def hWn (h : Int32) : Int32 := if h.toInt = -1 then 0 else 1
def lkA (p : xH) (n : Nat) (k : Int) : Int32 := if k % 2 = 0 then rI p 14 n else rI p 14 n ^^^ rI p 16 n
def aA (p : xH) (n : Nat) (k : Int) : Int32 := hSn (lkA p n k) (rI p 2 n)
def mS (p : xH) (n : Nat) : Int32 := hSn (rI p 67 n) (rI p 71 n)
def moA (p : xH) (k : Int) : Int32 := Int32.ofInt (((rI p 13 9).toInt + k) % 12)
def Xal (p : xH) (lo : Option (List yN)) (k : Int) (x y : Nat) : Prop := lAl lo (bcn (aA p x k ^^^ aA p y k)) (aA p x k) (aA p y k) (hWn (rI p 2 x) + hWn (rI p 2 y)) (moA p k) (rI p 13 8)
def Mal (p : xH) (lo : Option (List yN)) (x y : Nat) : Prop := lAl lo (bcn (mS p x ^^^ mS p y)) (mS p x) (mS p y) (hWn (rI p 71 x) + hWn (rI p 71 y)) (rI p 67 22) (rI p 67 21)
theorem mn_c (x y : Int32) : mnI x y = mnI y x ∧ mxI x y = mxI y x := by
  by_cases h : x.toInt < y.toInt
  · rw [(mn_1 h).1, (mn_1 h).2, (mn_2 (x := y) (y := x) (by omega)).1, (mn_2 (x := y) (y := x) (by omega)).2]; exact ⟨rfl, rfl⟩
  · rw [(mn_2 h).1, (mn_2 h).2]
    by_cases g : y.toInt < x.toInt
    · rw [(mn_1 g).1, (mn_1 g).2]; exact ⟨rfl, rfl⟩
    · rw [(mn_2 g).1, (mn_2 g).2]
      have e : x = y := Int32.toInt_inj.mp (by omega)
      rw [e]; exact ⟨rfl, rfl⟩
theorem lAl_c {lo : Option (List yN)} {x y h h' m e : Int32} (hh : h = h') (k : lAl lo (bcn (x ^^^ y)) x y h m e) : lAl lo (bcn (y ^^^ x)) y x h' m e := by
  subst hh
  rw [Int32.xor_comm] at k
  unfold lAl nmL at k ⊢
  rw [(mn_c x y).1, (mn_c x y).2] at k
  exact k
theorem Xal_c {p : xH} {lo : Option (List yN)} {k : Int} {x y : Nat} (h : Xal p lo k x y) : Xal p lo k y x := lAl_c (Int32.add_comm _ _) h
theorem Mal_c {p : xH} {lo : Option (List yN)} {x y : Nat} (h : Mal p lo x y) : Mal p lo y x := lAl_c (Int32.add_comm _ _) h
theorem hSn_t : ∀ a : Nat, a < 64 → ∀ k : Nat, k < 6 → (Int32.ofNat a ^^^ ((1 : Int32) <<< (Int32.ofNat k &&& 31))).toInt < 64 ∧ 0 ≤ (Int32.ofNat a ^^^ ((1 : Int32) <<< (Int32.ofNat k &&& 31))).toInt := by decide +kernel
theorem hSn_b {l h : Int32} (h1 : 0 ≤ l.toInt) (h2 : l.toInt < 64) (h3 : h.toInt < 6) : 0 ≤ (hSn l h).toInt ∧ (hSn l h).toInt < 64 := by
  unfold hSn
  by_cases g : h.toInt < 0
  · rw [if_pos g]; exact ⟨h1, h2⟩
  · rw [if_neg g]
    obtain ⟨a, ha, rfl⟩ := i_on h1 (by omega)
    rw [Int32.toInt_ofNat_of_lt (by omega)] at h2
    have hk : h = Int32.ofNat h.toInt.toNat := i_k (by omega)
    rw [hk]
    have := hSn_t a (by omega) h.toInt.toNat (by omega)
    exact ⟨this.2, this.1⟩
theorem hWn_0 {h : Int32} (g : h.toInt = -1) : hWn h = 0 := by unfold hWn; rw [if_pos g]
theorem hWn_1 {h : Int32} (g : h.toInt ≠ -1) : hWn h = 1 := by unfold hWn; rw [if_neg g]
theorem s_worn {ro : List (List Int32)} {n d : Nat} {p : xH} {Q : Option Value → xH → Prop} {x : Int32} {xi : Int} (hx : x.toInt = xi)  (k0 : ∀ z : Int32, (z = hWn x) → Q (some (.int z)) p) : hP ro n d (4, 1, 0, 1, k51) 0 (lv_args 0 [.int x]) [] p Q := by
  subst hx
  refine hp_id (ls := [(0, .int x)]) ?_
  refine hp_s (pc' := 1) (st' := [.int x]) rfl rfl rfl ?_
  refine hp_s (pc' := 2) (st' := [.int (-1), .int x]) rfl rfl rfl ?_
  refine hp_ic (pc' := 5) (t := 9) (a := x.toInt) (b := (-1)) rfl rfl rfl rfl (by decide) (fun (h1 : x.toInt ≠ (-1)) => ?_) (fun (h2 : ¬ (x.toInt ≠ (-1))) => ?_)
  ·
    refine hp_s (pc' := 10) (st' := [.int 1]) rfl rfl rfl ?_
    refine hp_ri rfl rfl ?_
    exact k0 _ (by first | exact (hWn_0 (by omega)).symm | exact (hWn_1 (by omega)).symm)
  ·
    refine hp_s (pc' := 6) (st' := [.int 0]) rfl rfl rfl ?_
    refine hp_go (pc' := 10) rfl rfl rfl ?_
    refine hp_ri rfl rfl ?_
    exact k0 _ (by first | exact (hWn_0 (by omega)).symm | exact (hWn_1 (by omega)).symm)
theorem s_hatBit {ro : List (List Int32)} {n d : Nat} {p : xH} {Q : Option Value → xH → Prop} {x : Int32} {xi : Int} (hx : x.toInt = xi) (pre0 : -1 ≤ xi) (k0 : ∀ z : Int32, (z = hWn x) → Q (some (.int z)) p) : hP ro n d (12, 1, 0, 1, k210) 0 (lv_args 0 [.int x]) [] p Q := by
  subst hx
  refine hp_id (ls := [(0, .int x)]) ?_
  refine hp_s (pc' := 1) (st' := [.int x]) rfl rfl rfl ?_
  refine hp_if (pc' := 4) (t := 8) (a := x.toInt) rfl rfl rfl rfl (fun (h1 : 0 ≤ x.toInt) => ?_) (fun (h2 : ¬ (0 ≤ x.toInt)) => ?_)
  ·
    refine hp_s (pc' := 9) (st' := [.int 1]) rfl rfl rfl ?_
    refine hp_ri rfl rfl ?_
    exact k0 _ (by first | exact (hWn_0 (by omega)).symm | exact (hWn_1 (by omega)).symm)
  ·
    refine hp_s (pc' := 5) (st' := [.int 0]) rfl rfl rfl ?_
    refine hp_go (pc' := 9) rfl rfl rfl ?_
    refine hp_ri rfl rfl ?_
    exact k0 _ (by first | exact (hWn_0 (by omega)).symm | exact (hWn_1 (by omega)).symm)
theorem s_seenAfter {ro : List (List Int32)} {n d : Nat} {p : xH} {Q : Option Value → xH → Prop} {x : Int32} {xi : Int} {k : Int32} {ki : Int} (hx : x.toInt = xi) (hk : k.toInt = ki) (pre0 : -1 ≤ (rI p 2 xi.toNat).toInt) (pre1 : 0 ≤ ki) (k0 : ∀ z : Int32, (0 ≤ xi) → (xi < 7) → (z = aA p xi.toNat ki) → Q (some (.int z)) p) : hP ro n d (1, 4, 1, 1, k18) 0 (lv_args 0 [.ref 13, .int x, .int k]) [] p Q := by
  subst hx
  subst hk
  refine hp_id (ls := [(0, .ref 13), (1, .int x), (2, .int k)]) ?_
  refine hp_s (pc' := 1) (st' := [.int k]) rfl rfl rfl ?_
  refine hp_s (pc' := 2) (st' := [.int 2, .int k]) rfl rfl rfl ?_
  refine hp_z (pc' := 3) (e := k - k / 2 * 2) (st' := []) rfl rfl rfl ?_
  intro z1 hz1
  have ez1 := i_rem hz1 (show k.toInt = k.toInt from rfl) (show (2 : Int32).toInt = 2 from by decide) (by decide)
  refine hp_if (pc' := 6) (t := 15) (a := (k.toInt % 2)) rfl rfl rfl (by omega) (fun (h1 : (k.toInt % 2) ≠ 0) => ?_) (fun (h2 : ¬ ((k.toInt % 2) ≠ 0)) => ?_)
  ·
    refine hp_s (pc' := 16) (st' := [.ref 13]) rfl rfl rfl ?_
    refine hp_getr (k := 1) (w := .ref 14) (pc' := 19) rfl rfl rfl rfl rfl ?_
    refine hp_s (pc' := 20) (st' := [.int x, .ref 14]) rfl rfl rfl ?_
    refine hp_ld (t := 100) (v := (rI p 14 x.toInt.toNat)) rfl (.inl rfl) rfl rfl rfl ?_
    intro (g1a : 0 ≤ x.toInt) (g1b : x.toInt < 7)
    refine hp_s (pc' := 22) (st' := [.ref 13, .int (rI p 14 x.toInt.toNat)]) rfl rfl rfl ?_
    refine hp_getr (k := 3) (w := .ref 16) (pc' := 25) rfl rfl rfl rfl rfl ?_
    refine hp_s (pc' := 26) (st' := [.int x, .ref 16, .int (rI p 14 x.toInt.toNat)]) rfl rfl rfl ?_
    refine hp_ld (t := 100) (v := (rI p 16 x.toInt.toNat)) rfl (.inl rfl) rfl rfl rfl ?_
    intro (g2a : 0 ≤ x.toInt) (g2b : x.toInt < 7)
    refine hp_z (pc' := 28) (e := (rI p 14 x.toInt.toNat) ^^^ (rI p 16 x.toInt.toNat)) (st' := []) rfl rfl rfl ?_
    intro z2 hz2
    refine hp_s (pc' := 29) (ls' := [(3, .int z2), (0, .ref 13), (1, .int x), (2, .int k)]) (st' := []) rfl rfl rfl ?_
    refine hp_s (pc' := 30) (st' := [.int z2]) rfl rfl rfl ?_
    refine hp_s (pc' := 31) (st' := [.ref 13, .int z2]) rfl rfl rfl ?_
    refine hp_getr (k := 0) (w := .ref 1) (pc' := 34) rfl rfl rfl rfl rfl ?_
    refine hp_getr (k := 0) (w := .ref 2) (pc' := 37) rfl rfl rfl rfl rfl ?_
    refine hp_s (pc' := 38) (st' := [.int x, .ref 2, .int z2]) rfl rfl rfl ?_
    refine hp_ld (t := 100) (v := (rI p 2 x.toInt.toNat)) rfl (.inl rfl) rfl rfl rfl ?_
    intro (g3a : 0 ≤ x.toInt) (g3b : x.toInt < 7)
    refine hp_cs (kd := 0) (as := [.int z2, .int (rI p 2 x.toInt.toNat)]) (rest := []) (pc' := 42) rfl rfl rfl rfl rfl rfl rfl (fun d1 => ?_)
    refine s_withHat (xi := z2.toInt) rfl (yi := (rI p 2 x.toInt.toNat).toInt) rfl (by first | assumption | omega) ?_
    intro y1 h3
    skip
    refine hp_id (st := [.int y1]) ?_
    refine hp_ri rfl rfl ?_
    refine k0 _ (by omega) (by omega) ?_
    rw [h3]
    unfold aA lkA
    first | (rw [if_pos (by omega)]) | (rw [if_neg (by omega)]; congr 1)
  ·
    refine hp_s (pc' := 7) (st' := [.ref 13]) rfl rfl rfl ?_
    refine hp_getr (k := 1) (w := .ref 14) (pc' := 10) rfl rfl rfl rfl rfl ?_
    refine hp_s (pc' := 11) (st' := [.int x, .ref 14]) rfl rfl rfl ?_
    refine hp_ld (t := 100) (v := (rI p 14 x.toInt.toNat)) rfl (.inl rfl) rfl rfl rfl ?_
    intro (g4a : 0 ≤ x.toInt) (g4b : x.toInt < 7)
    refine hp_go (pc' := 28) rfl rfl rfl ?_
    refine hp_s (pc' := 29) (ls' := [(3, .int (rI p 14 x.toInt.toNat)), (0, .ref 13), (1, .int x), (2, .int k)]) (st' := []) rfl rfl rfl ?_
    refine hp_s (pc' := 30) (st' := [.int (rI p 14 x.toInt.toNat)]) rfl rfl rfl ?_
    refine hp_s (pc' := 31) (st' := [.ref 13, .int (rI p 14 x.toInt.toNat)]) rfl rfl rfl ?_
    refine hp_getr (k := 0) (w := .ref 1) (pc' := 34) rfl rfl rfl rfl rfl ?_
    refine hp_getr (k := 0) (w := .ref 2) (pc' := 37) rfl rfl rfl rfl rfl ?_
    refine hp_s (pc' := 38) (st' := [.int x, .ref 2, .int (rI p 14 x.toInt.toNat)]) rfl rfl rfl ?_
    refine hp_ld (t := 100) (v := (rI p 2 x.toInt.toNat)) rfl (.inl rfl) rfl rfl rfl ?_
    intro (g5a : 0 ≤ x.toInt) (g5b : x.toInt < 7)
    refine hp_cs (kd := 0) (as := [.int (rI p 14 x.toInt.toNat), .int (rI p 2 x.toInt.toNat)]) (rest := []) (pc' := 42) rfl rfl rfl rfl rfl rfl rfl (fun d2 => ?_)
    refine s_withHat (xi := (rI p 14 x.toInt.toNat).toInt) rfl (yi := (rI p 2 x.toInt.toNat).toInt) rfl (by first | assumption | omega) ?_
    intro y2 h4
    skip
    refine hp_id (st := [.int y2]) ?_
    refine hp_ri rfl rfl ?_
    refine k0 _ (by omega) (by omega) ?_
    rw [h4]
    unfold aA lkA
    first | (rw [if_pos (by omega)]) | (rw [if_neg (by omega)]; congr 1)
theorem s_isAfter {ro : List (List Int32)} {n d : Nat} {p : xH} {Q : Option Value → xH → Prop} (lo : Option (List yN)) {x : Int32} {xi : Int} {y : Int32} {yi : Int} {k : Int32} {ki : Int} (hx : x.toInt = xi) (hy : y.toInt = yi) (hk : k.toInt = ki) (pre0 : lXo p lo) (pre1 : ∀ j, -1 ≤ (rI p 2 j).toInt) (pre2 : 0 ≤ ki) (pre3 : ki ≤ 12) (pre4 : 0 ≤ (rI p 13 9).toInt) (pre5 : (rI p 13 9).toInt ≤ 63) (k0 : ∀ p2 : xH, (hNt T_h p p2) → (Xal p lo ki xi.toNat yi.toNat) → Q (some (.int (1))) p2) (k1 : ∀ p2 : xH, (hNt T_h p p2) → (¬ Xal p lo ki xi.toNat yi.toNat) → Q (some (.int (0))) p2) : hP ro n d (4, 6, 1, 2, k49) 0 (lv_args 0 [.ref 32, .int x, .int y, .int k]) [] p Q := by
  subst hx
  subst hy
  subst hk
  refine hp_id (ls := [(0, .ref 32), (1, .int x), (2, .int y), (3, .int k)]) ?_
  have lx := pre1 x.toInt.toNat
  have ly := pre1 y.toInt.toNat
  refine hp_s (pc' := 1) (st' := [.ref 32]) rfl rfl rfl ?_
  refine hp_getr (k := 0) (w := .ref 13) (pc' := 4) rfl rfl rfl rfl rfl ?_
  refine hp_s (pc' := 5) (st' := [.int x, .ref 13]) rfl rfl rfl ?_
  refine hp_cv (r := 13) (o := 1) (kd := 1) (as := [.int x]) (rest := []) (pc' := 8) rfl rfl rfl rfl rfl rfl rfl rfl rfl (fun d1 => ?_)
  refine s_hatOf (xi := x.toInt) rfl ?_
  intro h1 h2
  refine hp_id (st := [.int (rI p 2 x.toInt.toNat)]) ?_
  refine hp_cs (kd := 0) (as := [.int (rI p 2 x.toInt.toNat)]) (rest := []) (pc' := 11) rfl rfl rfl rfl rfl rfl rfl (fun d2 => ?_)
  refine s_worn (xi := (rI p 2 x.toInt.toNat).toInt) rfl ?_
  intro y1 h3
  skip
  refine hp_id (st := [.int y1]) ?_
  refine hp_s (pc' := 12) (st' := [.ref 32, .int y1]) rfl rfl rfl ?_
  refine hp_getr (k := 0) (w := .ref 13) (pc' := 15) rfl rfl rfl rfl rfl ?_
  refine hp_s (pc' := 16) (st' := [.int y, .ref 13, .int y1]) rfl rfl rfl ?_
  refine hp_cv (r := 13) (o := 1) (kd := 1) (as := [.int y]) (rest := [.int y1]) (pc' := 19) rfl rfl rfl rfl rfl rfl rfl rfl rfl (fun d3 => ?_)
  refine s_hatOf (xi := y.toInt) rfl ?_
  intro h4 h5
  refine hp_id (st := [.int (rI p 2 y.toInt.toNat), .int y1]) ?_
  refine hp_cs (kd := 0) (as := [.int (rI p 2 y.toInt.toNat)]) (rest := [.int y1]) (pc' := 22) rfl rfl rfl rfl rfl rfl rfl (fun d4 => ?_)
  refine s_worn (xi := (rI p 2 y.toInt.toNat).toInt) rfl ?_
  intro y2 h6
  skip
  refine hp_id (st := [.int y2, .int y1]) ?_
  refine hp_z (pc' := 23) (e := y1 + y2) (st' := []) rfl rfl rfl ?_
  intro z1 hz1
  have ez1 := i_add hz1 (show y1.toInt = y1.toInt from rfl) (show y2.toInt = y2.toInt from rfl)
  refine hp_s (pc' := 25) (ls' := [(4, .int z1), (0, .ref 32), (1, .int x), (2, .int y), (3, .int k)]) (st' := []) rfl rfl rfl ?_
  refine hp_s (pc' := 26) (st' := [.ref 32]) rfl rfl rfl ?_
  refine hp_getr (k := 0) (w := .ref 13) (pc' := 29) rfl rfl rfl rfl rfl ?_
  refine hp_get (k := 9) (pc' := 32) (v := (rI p 13 9)) rfl rfl rfl rfl rfl rfl ?_
  refine hp_s (pc' := 33) (st' := [.int k, .int (rI p 13 9)]) rfl rfl rfl ?_
  refine hp_z (pc' := 34) (e := (rI p 13 9) + k) (st' := []) rfl rfl rfl ?_
  intro z2 hz2
  have ez2 := i_add hz2 (show (rI p 13 9).toInt = (rI p 13 9).toInt from rfl) (show k.toInt = k.toInt from rfl)
  refine hp_s (pc' := 36) (st' := [.int 12, .int z2]) rfl rfl rfl ?_
  refine hp_z (pc' := 37) (e := z2 - z2 / 12 * 12) (st' := []) rfl rfl rfl ?_
  intro z3 hz3
  have ez3 := i_rem hz3 (show z2.toInt = z2.toInt from rfl) (show (12 : Int32).toInt = 12 from by decide) (by decide)
  refine hp_s (pc' := 39) (ls' := [(5, .int z3), (4, .int z1), (0, .ref 32), (1, .int x), (2, .int y), (3, .int k)]) (st' := []) rfl rfl rfl ?_
  refine hp_s (pc' := 40) (st' := [.ref 32]) rfl rfl rfl ?_
  refine hp_getr (k := 1) (w := .ref 20) (pc' := 43) rfl rfl rfl rfl rfl ?_
  refine hp_s (pc' := 44) (st' := [.ref 32, .ref 20]) rfl rfl rfl ?_
  refine hp_getr (k := 0) (w := .ref 13) (pc' := 47) rfl rfl rfl rfl rfl ?_
  refine hp_s (pc' := 48) (st' := [.int x, .ref 13, .ref 20]) rfl rfl rfl ?_
  refine hp_s (pc' := 49) (st' := [.int k, .int x, .ref 13, .ref 20]) rfl rfl rfl ?_
  refine hp_cv (r := 13) (o := 1) (kd := 1) (as := [.int x, .int k]) (rest := [.ref 20]) (pc' := 52) rfl rfl rfl rfl rfl rfl rfl rfl rfl (fun d5 => ?_)
  refine s_seenAfter (xi := x.toInt) rfl (ki := k.toInt) rfl (by first | assumption | omega) (by first | assumption | omega) ?_
  intro y3 h7 h8 h9
  skip
  refine hp_id (st := [.int y3, .ref 20]) ?_
  refine hp_s (pc' := 53) (st' := [.ref 32, .int y3, .ref 20]) rfl rfl rfl ?_
  refine hp_getr (k := 0) (w := .ref 13) (pc' := 56) rfl rfl rfl rfl rfl ?_
  refine hp_s (pc' := 57) (st' := [.int y, .ref 13, .int y3, .ref 20]) rfl rfl rfl ?_
  refine hp_s (pc' := 58) (st' := [.int k, .int y, .ref 13, .int y3, .ref 20]) rfl rfl rfl ?_
  refine hp_cv (r := 13) (o := 1) (kd := 1) (as := [.int y, .int k]) (rest := [.int y3, .ref 20]) (pc' := 61) rfl rfl rfl rfl rfl rfl rfl rfl rfl (fun d6 => ?_)
  refine s_seenAfter (xi := y.toInt) rfl (ki := k.toInt) rfl (by first | assumption | omega) (by first | assumption | omega) ?_
  intro y4 h10 h11 h12
  skip
  refine hp_id (st := [.int y4, .int y3, .ref 20]) ?_
  refine hp_s (pc' := 63) (st' := [.int z1, .int y4, .int y3, .ref 20]) rfl rfl rfl ?_
  refine hp_s (pc' := 65) (st' := [.int z3, .int z1, .int y4, .int y3, .ref 20]) rfl rfl rfl ?_
  refine hp_s (pc' := 66) (st' := [.ref 32, .int z3, .int z1, .int y4, .int y3, .ref 20]) rfl rfl rfl ?_
  refine hp_getr (k := 0) (w := .ref 13) (pc' := 69) rfl rfl rfl rfl rfl ?_
  refine hp_get (k := 8) (pc' := 72) (v := (rI p 13 8)) rfl rfl rfl rfl rfl rfl ?_
  refine hp_cv (r := 20) (o := 3) (kd := 1) (as := [.int y3, .int y4, .int z1, .int z3, .int (rI p 13 8)]) (rest := []) (pc' := 75) rfl rfl rfl rfl rfl rfl rfl rfl rfl (fun d7 => ?_)
  refine s_holds lo (xi := y3.toInt) rfl (yi := y4.toInt) rfl (hi := z1.toInt) rfl (mi := (z2.toInt % 12)) (by omega) (ei := (rI p 13 8).toInt) rfl (by first | assumption | omega) ?_ ?_
  ·
    intro p1 h13 h14
    have hmo : z3 = moA p k.toInt := Int32.toInt_inj.mp (by unfold moA; rw [Int32.toInt_ofInt_of_le (by omega) (by omega)]; omega)
    rw [h9, h12, hz1, hmo] at h14
    rw [h3, h6] at h14
    refine hp_id (st := [.int 1]) ?_
    refine hp_rb rfl rfl (fun _ => ?_)
    first | (exact k0 _ (by first | assumption | omega) (by first | assumption | omega)) | (exfalso; omega)
  ·
    intro p2 h15 h16
    have hmo : z3 = moA p k.toInt := Int32.toInt_inj.mp (by unfold moA; rw [Int32.toInt_ofInt_of_le (by omega) (by omega)]; omega)
    rw [h9, h12, hz1, hmo] at h16
    rw [h3, h6] at h16
    refine hp_id (st := [.int 0]) ?_
    refine hp_rb rfl rfl (fun _ => ?_)
    first | (exact k1 _ (by first | assumption | omega) (by first | assumption | omega)) | (exfalso; omega)
theorem s_isWith {ro : List (List Int32)} {n d : Nat} {p : xH} {Q : Option Value → xH → Prop} (lo : Option (List yN)) {x : Int32} {xi : Int} {f : Int32} {fi : Int} {y : Int32} {yi : Int} {g : Int32} {gi : Int} (hx : x.toInt = xi) (hf : f.toInt = fi) (hy : y.toInt = yi) (hg : g.toInt = gi) (pre0 : lXo p lo) (pre1 : -1 ≤ fi) (pre2 : -1 ≤ gi) (k0 : ∀ p2 : xH, (hNt T_h p p2) → (lAl lo (bcn (hSn (rI p 14 xi.toNat) f ^^^ hSn (rI p 14 yi.toNat) g)) (hSn (rI p 14 xi.toNat) f) (hSn (rI p 14 yi.toNat) g) (hWn f + hWn g) (rI p 13 9) (rI p 13 8)) → Q (some (.int (1))) p2) (k1 : ∀ p2 : xH, (hNt T_h p p2) → (¬ lAl lo (bcn (hSn (rI p 14 xi.toNat) f ^^^ hSn (rI p 14 yi.toNat) g)) (hSn (rI p 14 xi.toNat) f) (hSn (rI p 14 yi.toNat) g) (hWn f + hWn g) (rI p 13 9) (rI p 13 8)) → Q (some (.int (0))) p2) : hP ro n d (4, 6, 1, 2, k50) 0 (lv_args 0 [.ref 32, .int x, .int f, .int y, .int g]) [] p Q := by
  subst hx
  subst hf
  subst hy
  subst hg
  refine hp_id (ls := [(0, .ref 32), (1, .int x), (2, .int f), (3, .int y), (4, .int g)]) ?_
  refine hp_s (pc' := 1) (st' := [.int f]) rfl rfl rfl ?_
  refine hp_cs (kd := 0) (as := [.int f]) (rest := []) (pc' := 4) rfl rfl rfl rfl rfl rfl rfl (fun d1 => ?_)
  refine s_worn (xi := f.toInt) rfl ?_
  intro y1 h1
  skip
  refine hp_id (st := [.int y1]) ?_
  refine hp_s (pc' := 6) (st' := [.int g, .int y1]) rfl rfl rfl ?_
  refine hp_cs (kd := 0) (as := [.int g]) (rest := [.int y1]) (pc' := 9) rfl rfl rfl rfl rfl rfl rfl (fun d2 => ?_)
  refine s_worn (xi := g.toInt) rfl ?_
  intro y2 h2
  skip
  refine hp_id (st := [.int y2, .int y1]) ?_
  refine hp_z (pc' := 10) (e := y1 + y2) (st' := []) rfl rfl rfl ?_
  intro z1 hz1
  have ez1 := i_add hz1 (show y1.toInt = y1.toInt from rfl) (show y2.toInt = y2.toInt from rfl)
  refine hp_s (pc' := 12) (ls' := [(5, .int z1), (0, .ref 32), (1, .int x), (2, .int f), (3, .int y), (4, .int g)]) (st' := []) rfl rfl rfl ?_
  refine hp_s (pc' := 13) (st' := [.ref 32]) rfl rfl rfl ?_
  refine hp_getr (k := 1) (w := .ref 20) (pc' := 16) rfl rfl rfl rfl rfl ?_
  refine hp_s (pc' := 17) (st' := [.ref 32, .ref 20]) rfl rfl rfl ?_
  refine hp_getr (k := 0) (w := .ref 13) (pc' := 20) rfl rfl rfl rfl rfl ?_
  refine hp_s (pc' := 21) (st' := [.int x, .ref 13, .ref 20]) rfl rfl rfl ?_
  refine hp_s (pc' := 22) (st' := [.int f, .int x, .ref 13, .ref 20]) rfl rfl rfl ?_
  refine hp_cv (r := 13) (o := 1) (kd := 1) (as := [.int x, .int f]) (rest := [.ref 20]) (pc' := 25) rfl rfl rfl rfl rfl rfl rfl rfl rfl (fun d3 => ?_)
  refine s_seenWith (xi := x.toInt) rfl (yi := f.toInt) rfl (by first | assumption | omega) ?_
  intro y3 h3 h4 h5
  skip
  refine hp_id (st := [.int y3, .ref 20]) ?_
  refine hp_s (pc' := 26) (st' := [.ref 32, .int y3, .ref 20]) rfl rfl rfl ?_
  refine hp_getr (k := 0) (w := .ref 13) (pc' := 29) rfl rfl rfl rfl rfl ?_
  refine hp_s (pc' := 30) (st' := [.int y, .ref 13, .int y3, .ref 20]) rfl rfl rfl ?_
  refine hp_s (pc' := 32) (st' := [.int g, .int y, .ref 13, .int y3, .ref 20]) rfl rfl rfl ?_
  refine hp_cv (r := 13) (o := 1) (kd := 1) (as := [.int y, .int g]) (rest := [.int y3, .ref 20]) (pc' := 35) rfl rfl rfl rfl rfl rfl rfl rfl rfl (fun d4 => ?_)
  refine s_seenWith (xi := y.toInt) rfl (yi := g.toInt) rfl (by first | assumption | omega) ?_
  intro y4 h6 h7 h8
  skip
  refine hp_id (st := [.int y4, .int y3, .ref 20]) ?_
  refine hp_s (pc' := 37) (st' := [.int z1, .int y4, .int y3, .ref 20]) rfl rfl rfl ?_
  refine hp_s (pc' := 38) (st' := [.ref 32, .int z1, .int y4, .int y3, .ref 20]) rfl rfl rfl ?_
  refine hp_getr (k := 0) (w := .ref 13) (pc' := 41) rfl rfl rfl rfl rfl ?_
  refine hp_get (k := 9) (pc' := 44) (v := (rI p 13 9)) rfl rfl rfl rfl rfl rfl ?_
  refine hp_s (pc' := 45) (st' := [.ref 32, .int (rI p 13 9), .int z1, .int y4, .int y3, .ref 20]) rfl rfl rfl ?_
  refine hp_getr (k := 0) (w := .ref 13) (pc' := 48) rfl rfl rfl rfl rfl ?_
  refine hp_get (k := 8) (pc' := 51) (v := (rI p 13 8)) rfl rfl rfl rfl rfl rfl ?_
  refine hp_cv (r := 20) (o := 3) (kd := 1) (as := [.int y3, .int y4, .int z1, .int (rI p 13 9), .int (rI p 13 8)]) (rest := []) (pc' := 54) rfl rfl rfl rfl rfl rfl rfl rfl rfl (fun d5 => ?_)
  refine s_holds lo (xi := y3.toInt) rfl (yi := y4.toInt) rfl (hi := z1.toInt) rfl (mi := (rI p 13 9).toInt) rfl (ei := (rI p 13 8).toInt) rfl (by first | assumption | omega) ?_ ?_
  ·
    intro p1 h9 h10
    rw [h5, h8, hz1, h1, h2] at h10
    refine hp_id (st := [.int 1]) ?_
    refine hp_rb rfl rfl (fun _ => ?_)
    first | (exact k0 _ (by first | assumption | omega) (by first | assumption | omega)) | (exfalso; omega)
  ·
    intro p2 h11 h12
    rw [h5, h8, hz1, h1, h2] at h12
    refine hp_id (st := [.int 0]) ?_
    refine hp_rb rfl rfl (fun _ => ?_)
    first | (exact k1 _ (by first | assumption | omega) (by first | assumption | omega)) | (exfalso; omega)
theorem s_isAlike {ro : List (List Int32)} {n d : Nat} {p : xH} {Q : Option Value → xH → Prop} (lo : Option (List yN)) {x : Int32} {xi : Int} {y : Int32} {yi : Int} (hx : x.toInt = xi) (hy : y.toInt = yi) (pre0 : lMo p lo) (pre1 : ∀ j, 0 ≤ (rI p 67 j).toInt ∧ (rI p 67 j).toInt < 64) (pre2 : ∀ j, -1 ≤ (rI p 71 j).toInt ∧ (rI p 71 j).toInt < 6) (k0 : ∀ p2 : xH, (hNt T_aa p p2) → (Mal p lo xi.toNat yi.toNat) → Q (some (.int (1))) p2) (k1 : ∀ p2 : xH, (hNt T_aa p p2) → (¬ Mal p lo xi.toNat yi.toNat) → Q (some (.int (0))) p2) : hP ro n d (12, 3, 1, 2, k211) 0 (lv_args 0 [.ref 66, .int x, .int y]) [] p Q := by
  subst hx
  subst hy
  refine hp_id (ls := [(0, .ref 66), (1, .int x), (2, .int y)]) ?_
  have lx := pre2 x.toInt.toNat
  have ly := pre2 y.toInt.toNat
  have bx := pre1 x.toInt.toNat
  have by_ := pre1 y.toInt.toNat
  refine hp_s (pc' := 1) (st' := [.ref 66]) rfl rfl rfl ?_
  refine hp_s (pc' := 2) (st' := [.ref 66, .ref 66]) rfl rfl rfl ?_
  refine hp_s (pc' := 3) (st' := [.int x, .ref 66, .ref 66]) rfl rfl rfl ?_
  refine hp_cv (r := 66) (o := 12) (kd := 1) (as := [.int x]) (rest := [.ref 66]) (pc' := 6) rfl rfl rfl rfl rfl rfl rfl rfl rfl (fun d1 => ?_)
  refine s_seenOf (xi := x.toInt) rfl ?_
  intro y1 h1 h2
  have ha : y1 = mS p x.toInt.toNat := h2
  have hab : 0 ≤ y1.toInt ∧ y1.toInt < 64 := by rw [ha]; exact hSn_b bx.1 bx.2 lx.2
  refine hp_id (st := [.int y1, .ref 66]) ?_
  refine hp_s (pc' := 7) (st' := [.ref 66, .int y1, .ref 66]) rfl rfl rfl ?_
  refine hp_s (pc' := 8) (st' := [.int y, .ref 66, .int y1, .ref 66]) rfl rfl rfl ?_
  refine hp_cv (r := 66) (o := 12) (kd := 1) (as := [.int y]) (rest := [.int y1, .ref 66]) (pc' := 11) rfl rfl rfl rfl rfl rfl rfl rfl rfl (fun d2 => ?_)
  refine s_seenOf (xi := y.toInt) rfl ?_
  intro y2 h3 h4
  have hb : y2 = mS p y.toInt.toNat := h4
  have hbb : 0 ≤ y2.toInt ∧ y2.toInt < 64 := by rw [hb]; exact hSn_b by_.1 by_.2 ly.2
  refine hp_id (st := [.int y2, .int y1, .ref 66]) ?_
  refine hp_s (pc' := 12) (st' := [.ref 66, .int y2, .int y1, .ref 66]) rfl rfl rfl ?_
  refine hp_getr (k := 7) (w := .ref 71) (pc' := 15) rfl rfl rfl rfl rfl ?_
  refine hp_s (pc' := 16) (st' := [.int x, .ref 71, .int y2, .int y1, .ref 66]) rfl rfl rfl ?_
  refine hp_ld (t := 100) (v := (rI p 71 x.toInt.toNat)) rfl (.inl rfl) rfl rfl rfl ?_
  intro (g1a : 0 ≤ x.toInt) (g1b : x.toInt < 7)
  refine hp_cs (kd := 0) (as := [.int (rI p 71 x.toInt.toNat)]) (rest := [.int y2, .int y1, .ref 66]) (pc' := 20) rfl rfl rfl rfl rfl rfl rfl (fun d3 => ?_)
  refine s_hatBit (xi := (rI p 71 x.toInt.toNat).toInt) rfl (by first | assumption | omega) ?_
  intro y3 h5
  skip
  refine hp_id (st := [.int y3, .int y2, .int y1, .ref 66]) ?_
  refine hp_s (pc' := 21) (st' := [.ref 66, .int y3, .int y2, .int y1, .ref 66]) rfl rfl rfl ?_
  refine hp_getr (k := 7) (w := .ref 71) (pc' := 24) rfl rfl rfl rfl rfl ?_
  refine hp_s (pc' := 25) (st' := [.int y, .ref 71, .int y3, .int y2, .int y1, .ref 66]) rfl rfl rfl ?_
  refine hp_ld (t := 100) (v := (rI p 71 y.toInt.toNat)) rfl (.inl rfl) rfl rfl rfl ?_
  intro (g2a : 0 ≤ y.toInt) (g2b : y.toInt < 7)
  refine hp_cs (kd := 0) (as := [.int (rI p 71 y.toInt.toNat)]) (rest := [.int y3, .int y2, .int y1, .ref 66]) (pc' := 29) rfl rfl rfl rfl rfl rfl rfl (fun d4 => ?_)
  refine s_hatBit (xi := (rI p 71 y.toInt.toNat).toInt) rfl (by first | assumption | omega) ?_
  intro y4 h6
  skip
  refine hp_id (st := [.int y4, .int y3, .int y2, .int y1, .ref 66]) ?_
  refine hp_z (pc' := 30) (e := y3 + y4) (st' := [.int y2, .int y1, .ref 66]) rfl rfl rfl ?_
  intro z1 hz1
  have ez1 := i_add hz1 (show y3.toInt = y3.toInt from rfl) (show y4.toInt = y4.toInt from rfl)
  refine hp_s (pc' := 31) (st' := [.ref 66, .int z1, .int y2, .int y1, .ref 66]) rfl rfl rfl ?_
  refine hp_getr (k := 0) (w := .ref 67) (pc' := 34) rfl rfl rfl rfl rfl ?_
  refine hp_s (pc' := 36) (st' := [.int 22, .ref 67, .int z1, .int y2, .int y1, .ref 66]) rfl rfl rfl ?_
  refine hp_ld (t := 100) (v := (rI p 67 22)) rfl (.inl rfl) rfl rfl rfl ?_
  intro (g3a : 0 ≤ (22 : Int32).toInt) (g3b : (22 : Int32).toInt < 23)
  refine hp_cv (r := 66) (o := 12) (kd := 1) (as := [.int y1, .int y2, .int z1, .int (rI p 67 22)]) (rest := []) (pc' := 40) rfl rfl rfl rfl rfl rfl rfl rfl rfl (fun d5 => ?_)
  refine s_areAlike lo (xi := y1.toInt) rfl (yi := y2.toInt) rfl (hi := z1.toInt) rfl (mi := (rI p 67 22).toInt) rfl (by first | assumption | omega) (by first | assumption | omega) (by first | assumption | omega) (by first | assumption | omega) (by first | assumption | omega) ?_ ?_
  ·
    intro p1 h7 h8
    rw [ha, hb, hz1, h5, h6] at h8
    refine hp_id (st := [.int 1]) ?_
    refine hp_rb rfl rfl (fun _ => ?_)
    first | (exact k0 _ (by first | assumption | omega) (by first | assumption | omega)) | (exfalso; omega)
  ·
    intro p2 h9 h10
    rw [ha, hb, hz1, h5, h6] at h10
    refine hp_id (st := [.int 0]) ?_
    refine hp_rb rfl rfl (fun _ => ?_)
    first | (exact k1 _ (by first | assumption | omega) (by first | assumption | omega)) | (exfalso; omega)
