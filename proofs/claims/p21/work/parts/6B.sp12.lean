/-! contracts of methods, walked -/
/-- a switch that goes by default -/
def hNo : List (Int × Int) → Int → Prop
  | [], _ => True
  | a :: r, k => a.1 ≠ k ∧ hNo r k
theorem hNo_off {d k : Int} : ∀ {l : List (Int × Int)}, hNo l k → Op.lookupswitch.offset l d k = d
  | [], _ => rfl
  | (a, o) :: r, h => by rw [Op.lookupswitch.offset_cons, if_neg h.1]; exact hNo_off h.2
theorem hp_lsd {ro : List (List Int32)} {n d : Nat} {q : xQ} {pc : Nat} {ls : xL} {st : List Value} {p : xH} {Q : Option Value → xH → Prop} {x : Int32} {dd : Int} {ps : Array (Int × Int)} {t : Nat} (hi : xcg q.2.2.2.2 pc = some (.lookupswitch dd ps)) (hm : (ps.toList.zip (ps.toList.drop 1)).all (fun (a, next) => a.1 < next.1) = true) (ht : xtg pc dd = some t) (hx : hNo ps.toList x.toInt) (K : hP ro n d q t ls st p Q) : hP ro n d q pc ls (.int x :: st) p Q := by
  refine hp_go hi rfl ?_ K
  simp only [xbr]
  rw [hm, hNo_off hx, ht]
  rfl
/-- looks with a hat -/
def hSn (l h : Int32) : Int32 := if h.toInt < 0 then l else l ^^^ ((1 : Int32) <<< (h &&& 31))
theorem s_withHat {ro : List (List Int32)} {n d : Nat} {p : xH} {Q : Option Value → xH → Prop} {x : Int32} {xi : Int} {y : Int32} {yi : Int} (hx : x.toInt = xi) (hy : y.toInt = yi) (pre0 : -1 ≤ yi) (k0 : ∀ z : Int32, (z = hSn x y) → Q (some (.int z)) p) : hP ro n d (1, 2, 0, 1, k19) 0 (lv_args 0 [.int x, .int y]) [] p Q := by
  subst hx
  subst hy
  refine hp_id (ls := [(0, .int x), (1, .int y)]) ?_
  refine hp_s (pc' := 1) (st' := [.int y]) rfl rfl rfl ?_
  refine hp_s (pc' := 2) (st' := [.int (-1), .int y]) rfl rfl rfl ?_
  refine hp_ic (pc' := 5) (t := 9) (a := y.toInt) (b := (-1)) rfl rfl rfl rfl (by decide) (fun (h1 : y.toInt ≠ (-1)) => ?_) (fun (h2 : ¬ (y.toInt ≠ (-1))) => ?_)
  ·
    refine hp_s (pc' := 10) (st' := [.int x]) rfl rfl rfl ?_
    refine hp_s (pc' := 11) (st' := [.int 1, .int x]) rfl rfl rfl ?_
    refine hp_s (pc' := 12) (st' := [.int y, .int 1, .int x]) rfl rfl rfl ?_
    refine hp_z (pc' := 13) (e := 1 <<< (y &&& 31)) (st' := [.int x]) rfl rfl rfl ?_
    intro z1 hz1
    refine hp_z (pc' := 14) (e := x ^^^ z1) (st' := []) rfl rfl rfl ?_
    intro z2 hz2
    refine hp_ri rfl rfl ?_
    first | (exact k0 _ (by first | assumption | omega | (subst_vars; unfold hSn; first | rw [if_pos (by omega)] | rw [if_neg (by omega)]))) | (exfalso; omega)
  ·
    refine hp_s (pc' := 6) (st' := [.int x]) rfl rfl rfl ?_
    refine hp_go (pc' := 14) rfl rfl rfl ?_
    refine hp_ri rfl rfl ?_
    first | (exact k0 _ (by first | assumption | omega | (subst_vars; unfold hSn; first | rw [if_pos (by omega)] | rw [if_neg (by omega)]))) | (exfalso; omega)
theorem s_seenWithM {ro : List (List Int32)} {n d : Nat} {p : xH} {Q : Option Value → xH → Prop} {x : Int32} {xi : Int} {y : Int32} {yi : Int} (hx : x.toInt = xi) (hy : y.toInt = yi)  (k0 : ∀ z : Int32, (z = hSn x y) → Q (some (.int z)) p) : hP ro n d (12, 2, 0, 1, k191) 0 (lv_args 0 [.int x, .int y]) [] p Q := by
  subst hx
  subst hy
  refine hp_id (ls := [(0, .int x), (1, .int y)]) ?_
  refine hp_s (pc' := 1) (st' := [.int y]) rfl rfl rfl ?_
  refine hp_if (pc' := 4) (t := 8) (a := y.toInt) rfl rfl rfl rfl (fun (h1 : 0 ≤ y.toInt) => ?_) (fun (h2 : ¬ (0 ≤ y.toInt)) => ?_)
  ·
    refine hp_s (pc' := 9) (st' := [.int x]) rfl rfl rfl ?_
    refine hp_s (pc' := 10) (st' := [.int 1, .int x]) rfl rfl rfl ?_
    refine hp_s (pc' := 11) (st' := [.int y, .int 1, .int x]) rfl rfl rfl ?_
    refine hp_z (pc' := 12) (e := 1 <<< (y &&& 31)) (st' := [.int x]) rfl rfl rfl ?_
    intro z1 hz1
    refine hp_z (pc' := 13) (e := x ^^^ z1) (st' := []) rfl rfl rfl ?_
    intro z2 hz2
    refine hp_ri rfl rfl ?_
    first | (exact k0 _ (by first | assumption | omega | (subst_vars; unfold hSn; first | rw [if_pos (by omega)] | rw [if_neg (by omega)]))) | (exfalso; omega)
  ·
    refine hp_s (pc' := 5) (st' := [.int x]) rfl rfl rfl ?_
    refine hp_go (pc' := 13) rfl rfl rfl ?_
    refine hp_ri rfl rfl ?_
    first | (exact k0 _ (by first | assumption | omega | (subst_vars; unfold hSn; first | rw [if_pos (by omega)] | rw [if_neg (by omega)]))) | (exfalso; omega)
theorem s_seen {ro : List (List Int32)} {n d : Nat} {p : xH} {Q : Option Value → xH → Prop} {x : Int32} {xi : Int} (hx : x.toInt = xi) (pre0 : -1 ≤ (rI p 2 xi.toNat).toInt) (k0 : ∀ z : Int32, (0 ≤ xi) → (xi < 7) → (z = hSn (rI p 14 xi.toNat) (rI p 2 xi.toNat)) → Q (some (.int z)) p) : hP ro n d (1, 2, 1, 1, k16) 0 (lv_args 0 [.ref 13, .int x]) [] p Q := by
  subst hx
  refine hp_id (ls := [(0, .ref 13), (1, .int x)]) ?_
  refine hp_s (pc' := 1) (st' := [.ref 13]) rfl rfl rfl ?_
  refine hp_getr (k := 1) (w := .ref 14) (pc' := 4) rfl rfl rfl rfl rfl ?_
  refine hp_s (pc' := 5) (st' := [.int x, .ref 14]) rfl rfl rfl ?_
  refine hp_ld (t := 100) (v := (rI p 14 x.toInt.toNat)) rfl (.inl rfl) rfl rfl rfl ?_
  intro (g1a : 0 ≤ x.toInt) (g1b : x.toInt < 7)
  refine hp_s (pc' := 7) (st' := [.ref 13, .int (rI p 14 x.toInt.toNat)]) rfl rfl rfl ?_
  refine hp_getr (k := 0) (w := .ref 1) (pc' := 10) rfl rfl rfl rfl rfl ?_
  refine hp_getr (k := 0) (w := .ref 2) (pc' := 13) rfl rfl rfl rfl rfl ?_
  refine hp_s (pc' := 14) (st' := [.int x, .ref 2, .int (rI p 14 x.toInt.toNat)]) rfl rfl rfl ?_
  refine hp_ld (t := 100) (v := (rI p 2 x.toInt.toNat)) rfl (.inl rfl) rfl rfl rfl ?_
  intro (g2a : 0 ≤ x.toInt) (g2b : x.toInt < 7)
  refine hp_cs (kd := 0) (as := [.int (rI p 14 x.toInt.toNat), .int (rI p 2 x.toInt.toNat)]) (rest := []) (pc' := 18) rfl rfl rfl rfl rfl rfl rfl (fun d1 => ?_)
  refine s_withHat (xi := (rI p 14 x.toInt.toNat).toInt) rfl (yi := (rI p 2 x.toInt.toNat).toInt) rfl (by first | assumption | omega) ?_
  intro y1 h1
  refine hp_id (st := [.int y1]) ?_
  refine hp_ri rfl rfl ?_
  first | (exact k0 _ (by first | assumption | omega) (by first | assumption | omega) (by first | assumption | omega)) | (exfalso; omega)
theorem s_seenWith {ro : List (List Int32)} {n d : Nat} {p : xH} {Q : Option Value → xH → Prop} {x : Int32} {xi : Int} {y : Int32} {yi : Int} (hx : x.toInt = xi) (hy : y.toInt = yi) (pre0 : -1 ≤ yi) (k0 : ∀ z : Int32, (0 ≤ xi) → (xi < 7) → (z = hSn (rI p 14 xi.toNat) y) → Q (some (.int z)) p) : hP ro n d (1, 3, 1, 1, k17) 0 (lv_args 0 [.ref 13, .int x, .int y]) [] p Q := by
  subst hx
  subst hy
  refine hp_id (ls := [(0, .ref 13), (1, .int x), (2, .int y)]) ?_
  refine hp_s (pc' := 1) (st' := [.ref 13]) rfl rfl rfl ?_
  refine hp_getr (k := 1) (w := .ref 14) (pc' := 4) rfl rfl rfl rfl rfl ?_
  refine hp_s (pc' := 5) (st' := [.int x, .ref 14]) rfl rfl rfl ?_
  refine hp_ld (t := 100) (v := (rI p 14 x.toInt.toNat)) rfl (.inl rfl) rfl rfl rfl ?_
  intro (g1a : 0 ≤ x.toInt) (g1b : x.toInt < 7)
  refine hp_s (pc' := 7) (st' := [.int y, .int (rI p 14 x.toInt.toNat)]) rfl rfl rfl ?_
  refine hp_cs (kd := 0) (as := [.int (rI p 14 x.toInt.toNat), .int y]) (rest := []) (pc' := 10) rfl rfl rfl rfl rfl rfl rfl (fun d1 => ?_)
  refine s_withHat (xi := (rI p 14 x.toInt.toNat).toInt) rfl (yi := y.toInt) rfl (by first | assumption | omega) ?_
  intro y1 h1
  refine hp_id (st := [.int y1]) ?_
  refine hp_ri rfl rfl ?_
  first | (exact k0 _ (by first | assumption | omega) (by first | assumption | omega) (by first | assumption | omega)) | (exfalso; omega)
theorem s_seenOf {ro : List (List Int32)} {n d : Nat} {p : xH} {Q : Option Value → xH → Prop} {x : Int32} {xi : Int} (hx : x.toInt = xi)  (k0 : ∀ z : Int32, (0 ≤ xi) → (z = hSn (rI p 67 xi.toNat) (rI p 71 xi.toNat)) → Q (some (.int z)) p) : hP ro n d (12, 2, 1, 1, k192) 0 (lv_args 0 [.ref 66, .int x]) [] p Q := by
  subst hx
  refine hp_id (ls := [(0, .ref 66), (1, .int x)]) ?_
  refine hp_s (pc' := 1) (st' := [.ref 66]) rfl rfl rfl ?_
  refine hp_getr (k := 0) (w := .ref 67) (pc' := 4) rfl rfl rfl rfl rfl ?_
  refine hp_s (pc' := 5) (st' := [.int x, .ref 67]) rfl rfl rfl ?_
  refine hp_ld (t := 100) (v := (rI p 67 x.toInt.toNat)) rfl (.inl rfl) rfl rfl rfl ?_
  intro (g1a : 0 ≤ x.toInt) (g1b : x.toInt < 23)
  refine hp_s (pc' := 7) (st' := [.ref 66, .int (rI p 67 x.toInt.toNat)]) rfl rfl rfl ?_
  refine hp_getr (k := 7) (w := .ref 71) (pc' := 10) rfl rfl rfl rfl rfl ?_
  refine hp_s (pc' := 11) (st' := [.int x, .ref 71, .int (rI p 67 x.toInt.toNat)]) rfl rfl rfl ?_
  refine hp_ld (t := 100) (v := (rI p 71 x.toInt.toNat)) rfl (.inl rfl) rfl rfl rfl ?_
  intro (g2a : 0 ≤ x.toInt) (g2b : x.toInt < 7)
  refine hp_cs (kd := 0) (as := [.int (rI p 67 x.toInt.toNat), .int (rI p 71 x.toInt.toNat)]) (rest := []) (pc' := 15) rfl rfl rfl rfl rfl rfl rfl (fun d1 => ?_)
  refine s_seenWithM (xi := (rI p 67 x.toInt.toNat).toInt) rfl (yi := (rI p 71 x.toInt.toNat).toInt) rfl ?_
  intro y1 h1
  refine hp_id (st := [.int y1]) ?_
  refine hp_ri rfl rfl ?_
  first | (exact k0 _ (by first | assumption | omega) (by first | assumption | omega)) | (exfalso; omega)
theorem s_hasSight {ro : List (List Int32)} {n d : Nat} {p : xH} {Q : Option Value → xH → Prop} {x : Int32} {xi : Int} (hx : x.toInt = xi)  (k0 : (0 ≤ xi) → (xi < (rI p 1 5).toInt) → Q (some (.int (1))) p) (k1 : (¬ (0 ≤ xi ∧ xi < (rI p 1 5).toInt)) → Q (some (.int (0))) p) : hP ro n d (5, 2, 1, 2, k59) 0 (lv_args 0 [.ref 1, .int x]) [] p Q := by
  subst hx
  refine hp_id (ls := [(0, .ref 1), (1, .int x)]) ?_
  refine hp_s (pc' := 1) (st' := [.int x]) rfl rfl rfl ?_
  refine hp_if (pc' := 4) (t := 16) (a := x.toInt) rfl rfl rfl rfl (fun (h1 : x.toInt < 0) => ?_) (fun (h2 : ¬ (x.toInt < 0)) => ?_)
  ·
    refine hp_s (pc' := 17) (st' := [.int 0]) rfl rfl rfl ?_
    refine hp_rb rfl rfl (fun _ => ?_)
    first | (exact k1 (by first | assumption | omega)) | (exfalso; omega)
  ·
    refine hp_s (pc' := 5) (st' := [.int x]) rfl rfl rfl ?_
    refine hp_s (pc' := 6) (st' := [.ref 1, .int x]) rfl rfl rfl ?_
    refine hp_get (k := 5) (pc' := 9) (v := (rI p 1 5)) rfl rfl rfl rfl rfl rfl ?_
    refine hp_ic (pc' := 12) (t := 16) (a := x.toInt) (b := (rI p 1 5).toInt) rfl rfl rfl rfl rfl (fun (h3 : (rI p 1 5).toInt ≤ x.toInt) => ?_) (fun (h4 : ¬ ((rI p 1 5).toInt ≤ x.toInt)) => ?_)
    ·
      refine hp_s (pc' := 17) (st' := [.int 0]) rfl rfl rfl ?_
      refine hp_rb rfl rfl (fun _ => ?_)
      first | (exact k1 (by first | assumption | omega)) | (exfalso; omega)
    ·
      refine hp_s (pc' := 13) (st' := [.int 1]) rfl rfl rfl ?_
      refine hp_go (pc' := 17) rfl rfl rfl ?_
      refine hp_rb rfl rfl (fun _ => ?_)
      first | (exact k0 (by first | assumption | omega) (by first | assumption | omega)) | (exfalso; omega)
theorem s_ofPerson {ro : List (List Int32)} {n d : Nat} {p : xH} {Q : Option Value → xH → Prop} {x : Int32} {xi : Int} {y : Int32} {yi : Int} (hx : x.toInt = xi) (hy : y.toInt = yi) (pre0 : 0 ≤ xi) (pre1 : xi < 7) (pre2 : 0 ≤ yi) (pre3 : yi ≤ 6) (pre4 : -1 ≤ (rI p 2 xi.toNat).toInt) (pre5 : 0 ≤ (rI p 17 xi.toNat).toInt) (pre6 : (rI p 17 xi.toNat).toInt ≤ 7) (k0 : (yi = 3) → Q (some (.int (rI p 2 xi.toNat))) p) (k1 : ∀ z : Int32, (yi = 4) → (z = hSn (rI p 14 xi.toNat) (rI p 2 xi.toNat)) → Q (some (.int z)) p) (k2 : (yi = 5) → Q (some (.int (rI p 17 xi.toNat))) p) (k3 : (yi = 6) → Q (some (.int (hSum (fun j => rI p 19 ((4 * xi).toNat + j)) (rI p 17 xi.toNat).toInt.toNat))) p) (k4 : ∀ z : Int32, (yi ≤ 2) → (z = hTd p xi.toNat yi) → Q (some (.int z)) p) : hP ro n d (11, 3, 1, 1, k134) 0 (lv_args 0 [.ref 0, .int x, .int y]) [] p Q := by
  subst hx
  subst hy
  refine hp_id (ls := [(0, .ref 0), (1, .int x), (2, .int y)]) ?_
  refine hp_s (pc' := 1) (st' := [.int y]) rfl rfl rfl ?_
  by_cases h1 : y.toInt = 3
  ·
    refine hp_sw (v := 3) (t := 32) rfl rfl (h1) rfl ?_
    refine hp_s (pc' := 33) (st' := [.ref 0]) rfl rfl rfl ?_
    refine hp_getr (k := 4) (w := .ref 13) (pc' := 36) rfl rfl rfl rfl rfl ?_
    refine hp_s (pc' := 37) (st' := [.int x, .ref 13]) rfl rfl rfl ?_
    refine hp_cv (r := 13) (o := 1) (kd := 1) (as := [.int x]) (rest := []) (pc' := 40) rfl rfl rfl rfl rfl rfl rfl rfl rfl (fun d1 => ?_)
    refine s_hatOf (xi := x.toInt) rfl ?_
    intro h2 h3
    refine hp_id (st := [.int (rI p 2 x.toInt.toNat)]) ?_
    refine hp_ri rfl rfl ?_
    first | (exact k0 (by first | assumption | omega)) | (exact k1 _ (by first | assumption | omega) (by first | assumption | omega)) | (exact k2 (by first | assumption | omega)) | (exact k3 (by first | assumption | omega)) | (exact k4 _ (by first | assumption | omega) (by first | assumption | omega)) | (exfalso; omega)
  by_cases h4 : y.toInt = 4
  ·
    refine hp_sw (v := 4) (t := 41) rfl rfl (h4) rfl ?_
    refine hp_s (pc' := 42) (st' := [.ref 0]) rfl rfl rfl ?_
    refine hp_getr (k := 4) (w := .ref 13) (pc' := 45) rfl rfl rfl rfl rfl ?_
    refine hp_s (pc' := 46) (st' := [.int x, .ref 13]) rfl rfl rfl ?_
    refine hp_cv (r := 13) (o := 1) (kd := 1) (as := [.int x]) (rest := []) (pc' := 49) rfl rfl rfl rfl rfl rfl rfl rfl rfl (fun d2 => ?_)
    refine s_seen (xi := x.toInt) rfl (by first | assumption | omega) ?_
    intro y1 h5 h6 h7
    refine hp_id (st := [.int y1]) ?_
    refine hp_ri rfl rfl ?_
    first | (exact k0 (by first | assumption | omega)) | (exact k1 _ (by first | assumption | omega) (by first | assumption | omega)) | (exact k2 (by first | assumption | omega)) | (exact k3 (by first | assumption | omega)) | (exact k4 _ (by first | assumption | omega) (by first | assumption | omega)) | (exfalso; omega)
  by_cases h8 : y.toInt = 5
  ·
    refine hp_sw (v := 5) (t := 50) rfl rfl (h8) rfl ?_
    refine hp_s (pc' := 51) (st' := [.ref 0]) rfl rfl rfl ?_
    refine hp_getr (k := 4) (w := .ref 13) (pc' := 54) rfl rfl rfl rfl rfl ?_
    refine hp_getr (k := 4) (w := .ref 17) (pc' := 57) rfl rfl rfl rfl rfl ?_
    refine hp_s (pc' := 58) (st' := [.int x, .ref 17]) rfl rfl rfl ?_
    refine hp_ld (t := 100) (v := (rI p 17 x.toInt.toNat)) rfl (.inl rfl) rfl rfl rfl ?_
    intro (g1a : 0 ≤ x.toInt) (g1b : x.toInt < 7)
    refine hp_ri rfl rfl ?_
    first | (exact k0 (by first | assumption | omega)) | (exact k1 _ (by first | assumption | omega) (by first | assumption | omega)) | (exact k2 (by first | assumption | omega)) | (exact k3 (by first | assumption | omega)) | (exact k4 _ (by first | assumption | omega) (by first | assumption | omega)) | (exfalso; omega)
  by_cases h9 : y.toInt = 6
  ·
    refine hp_sw (v := 6) (t := 60) rfl rfl (h9) rfl ?_
    refine hp_s (pc' := 61) (st' := [.ref 0]) rfl rfl rfl ?_
    refine hp_getr (k := 4) (w := .ref 13) (pc' := 64) rfl rfl rfl rfl rfl ?_
    refine hp_s (pc' := 65) (st' := [.int x, .ref 13]) rfl rfl rfl ?_
    refine hp_cv (r := 13) (o := 1) (kd := 1) (as := [.int x]) (rest := []) (pc' := 68) rfl rfl rfl rfl rfl rfl rfl rfl rfl (fun d3 => ?_)
    refine s_minutesOf (xi := x.toInt) rfl (by first | assumption | omega) (by first | assumption | omega) (by first | assumption | omega) (by first | assumption | omega) ?_
    refine hp_id (st := [.int (((hSum (fun j => rI p 19 ((4 * x.toInt).toNat + j)) (rI p 17 x.toInt.toNat).toInt.toNat)))]) ?_
    refine hp_ri rfl rfl ?_
    first | (exact k0 (by first | assumption | omega)) | (exact k1 _ (by first | assumption | omega) (by first | assumption | omega)) | (exact k2 (by first | assumption | omega)) | (exact k3 (by first | assumption | omega)) | (exact k4 _ (by first | assumption | omega) (by first | assumption | omega)) | (exfalso; omega)
  refine hp_td (t := 69) rfl rfl (by omega) ?_
  refine hp_s (pc' := 70) (st' := [.ref 0]) rfl rfl rfl ?_
  refine hp_getr (k := 4) (w := .ref 13) (pc' := 73) rfl rfl rfl rfl rfl ?_
  refine hp_s (pc' := 74) (st' := [.int x, .ref 13]) rfl rfl rfl ?_
  refine hp_s (pc' := 75) (st' := [.int y, .int x, .ref 13]) rfl rfl rfl ?_
  refine hp_cv (r := 13) (o := 1) (kd := 1) (as := [.int x, .int y]) (rest := []) (pc' := 78) rfl rfl rfl rfl rfl rfl rfl rfl rfl (fun d4 => ?_)
  refine s_told (xi := x.toInt) rfl (yi := y.toInt) rfl (by first | assumption | omega | (unfold hMay at *; omega)) (by first | assumption | omega | (unfold hMay at *; omega)) ?_
  intro y2 h10
  refine hp_id (st := [.int y2]) ?_
  refine hp_ri rfl rfl ?_
  first | (exact k0 (by first | assumption | omega)) | (exact k1 _ (by first | assumption | omega) (by first | assumption | omega)) | (exact k2 (by first | assumption | omega)) | (exact k3 (by first | assumption | omega)) | (exact k4 _ (by first | assumption | omega) (by first | assumption | omega)) | (exfalso; omega)
theorem s_ofPersonM {ro : List (List Int32)} {n d : Nat} {p : xH} {Q : Option Value → xH → Prop} {x : Int32} {xi : Int} {y : Int32} {yi : Int} (hx : x.toInt = xi) (hy : y.toInt = yi) (pre0 : 0 ≤ xi) (pre1 : xi < 7) (pre2 : 0 ≤ yi) (pre3 : yi ≤ 6) (pre4 : 0 ≤ (rI p 72 xi.toNat).toInt) (pre5 : (rI p 72 xi.toNat).toInt ≤ 7) (k0 : (yi = 3) → Q (some (.int (rI p 71 xi.toNat))) p) (k1 : ∀ z : Int32, (yi = 4) → (z = hSn (rI p 67 xi.toNat) (rI p 71 xi.toNat)) → Q (some (.int z)) p) (k2 : (yi = 5) → Q (some (.int (rI p 72 xi.toNat))) p) (k3 : (yi = 6) → Q (some (.int (hSum (fun j => rI p 74 ((4 * xi).toNat + j)) (rI p 72 xi.toNat).toInt.toNat))) p) (k4 : ∀ z : Int32, (yi ≤ 2) → (z = rI p 67 (7 * yi + xi).toNat) → Q (some (.int z)) p) : hP ro n d (12, 3, 1, 1, k194) 0 (lv_args 0 [.ref 66, .int x, .int y]) [] p Q := by
  subst hx
  subst hy
  refine hp_id (ls := [(0, .ref 66), (1, .int x), (2, .int y)]) ?_
  refine hp_s (pc' := 1) (st' := [.int y]) rfl rfl rfl ?_
  by_cases h1 : y.toInt = 3
  ·
    refine hp_sw (v := 3) (t := 32) rfl rfl (h1) rfl ?_
    refine hp_s (pc' := 33) (st' := [.ref 66]) rfl rfl rfl ?_
    refine hp_getr (k := 7) (w := .ref 71) (pc' := 36) rfl rfl rfl rfl rfl ?_
    refine hp_s (pc' := 37) (st' := [.int x, .ref 71]) rfl rfl rfl ?_
    refine hp_ld (t := 100) (v := (rI p 71 x.toInt.toNat)) rfl (.inl rfl) rfl rfl rfl ?_
    intro (g1a : 0 ≤ x.toInt) (g1b : x.toInt < 7)
    refine hp_ri rfl rfl ?_
    first | (exact k0 (by first | assumption | omega | (congr 1; omega))) | (exact k1 _ (by first | assumption | omega | (congr 1; omega)) (by first | assumption | omega | (congr 1; omega))) | (exact k2 (by first | assumption | omega | (congr 1; omega))) | (exact k3 (by first | assumption | omega | (congr 1; omega))) | (exact k4 _ (by first | assumption | omega | (congr 1; omega)) (by first | assumption | omega | (congr 1; omega))) | (exfalso; omega)
  by_cases h2 : y.toInt = 4
  ·
    refine hp_sw (v := 4) (t := 39) rfl rfl (h2) rfl ?_
    refine hp_s (pc' := 40) (st' := [.ref 66]) rfl rfl rfl ?_
    refine hp_s (pc' := 41) (st' := [.int x, .ref 66]) rfl rfl rfl ?_
    refine hp_cv (r := 66) (o := 12) (kd := 1) (as := [.int x]) (rest := []) (pc' := 44) rfl rfl rfl rfl rfl rfl rfl rfl rfl (fun d1 => ?_)
    refine s_seenOf (xi := x.toInt) rfl ?_
    intro y1 h3 h4
    refine hp_id (st := [.int y1]) ?_
    refine hp_ri rfl rfl ?_
    first | (exact k0 (by first | assumption | omega | (congr 1; omega))) | (exact k1 _ (by first | assumption | omega | (congr 1; omega)) (by first | assumption | omega | (congr 1; omega))) | (exact k2 (by first | assumption | omega | (congr 1; omega))) | (exact k3 (by first | assumption | omega | (congr 1; omega))) | (exact k4 _ (by first | assumption | omega | (congr 1; omega)) (by first | assumption | omega | (congr 1; omega))) | (exfalso; omega)
  by_cases h5 : y.toInt = 5
  ·
    refine hp_sw (v := 5) (t := 45) rfl rfl (h5) rfl ?_
    refine hp_s (pc' := 46) (st' := [.ref 66]) rfl rfl rfl ?_
    refine hp_getr (k := 8) (w := .ref 72) (pc' := 49) rfl rfl rfl rfl rfl ?_
    refine hp_s (pc' := 50) (st' := [.int x, .ref 72]) rfl rfl rfl ?_
    refine hp_ld (t := 100) (v := (rI p 72 x.toInt.toNat)) rfl (.inl rfl) rfl rfl rfl ?_
    intro (g2a : 0 ≤ x.toInt) (g2b : x.toInt < 7)
    refine hp_ri rfl rfl ?_
    first | (exact k0 (by first | assumption | omega | (congr 1; omega))) | (exact k1 _ (by first | assumption | omega | (congr 1; omega)) (by first | assumption | omega | (congr 1; omega))) | (exact k2 (by first | assumption | omega | (congr 1; omega))) | (exact k3 (by first | assumption | omega | (congr 1; omega))) | (exact k4 _ (by first | assumption | omega | (congr 1; omega)) (by first | assumption | omega | (congr 1; omega))) | (exfalso; omega)
  by_cases h6 : y.toInt = 6
  ·
    refine hp_sw (v := 6) (t := 52) rfl rfl (h6) rfl ?_
    refine hp_s (pc' := 53) (st' := [.ref 66]) rfl rfl rfl ?_
    refine hp_s (pc' := 54) (st' := [.int x, .ref 66]) rfl rfl rfl ?_
    refine hp_cv (r := 66) (o := 12) (kd := 1) (as := [.int x]) (rest := []) (pc' := 57) rfl rfl rfl rfl rfl rfl rfl rfl rfl (fun d2 => ?_)
    refine s_minutesOfM (xi := x.toInt) rfl (by first | assumption | omega) (by first | assumption | omega) (by first | assumption | omega) (by first | assumption | omega) ?_
    refine hp_id (st := [.int (((hSum (fun j => rI p 74 ((4 * x.toInt).toNat + j)) (rI p 72 x.toInt.toNat).toInt.toNat)))]) ?_
    refine hp_ri rfl rfl ?_
    first | (exact k0 (by first | assumption | omega | (congr 1; omega))) | (exact k1 _ (by first | assumption | omega | (congr 1; omega)) (by first | assumption | omega | (congr 1; omega))) | (exact k2 (by first | assumption | omega | (congr 1; omega))) | (exact k3 (by first | assumption | omega | (congr 1; omega))) | (exact k4 _ (by first | assumption | omega | (congr 1; omega)) (by first | assumption | omega | (congr 1; omega))) | (exfalso; omega)
  refine hp_td (t := 58) rfl rfl (by omega) ?_
  refine hp_s (pc' := 59) (st' := [.ref 66]) rfl rfl rfl ?_
  refine hp_getr (k := 0) (w := .ref 67) (pc' := 62) rfl rfl rfl rfl rfl ?_
  refine hp_s (pc' := 64) (st' := [.int 7, .ref 67]) rfl rfl rfl ?_
  refine hp_s (pc' := 65) (st' := [.int y, .int 7, .ref 67]) rfl rfl rfl ?_
  refine hp_z (pc' := 66) (e := 7 * y) (st' := [.ref 67]) rfl rfl rfl ?_
  intro z1 hz1
  have ez1 := i_mul hz1 (show (7 : Int32).toInt = 7 from by decide) (show y.toInt = y.toInt from rfl)
  refine hp_s (pc' := 67) (st' := [.int x, .int z1, .ref 67]) rfl rfl rfl ?_
  refine hp_z (pc' := 68) (e := z1 + x) (st' := [.ref 67]) rfl rfl rfl ?_
  intro z2 hz2
  have ez2 := i_add hz2 (show z1.toInt = z1.toInt from rfl) (show x.toInt = x.toInt from rfl)
  refine hp_ld (t := 100) (v := (rI p 67 z2.toInt.toNat)) rfl (.inl rfl) rfl rfl rfl ?_
  intro (g3a : 0 ≤ z2.toInt) (g3b : z2.toInt < 23)
  refine hp_ri rfl rfl ?_
  first | (exact k0 (by first | assumption | omega | (congr 1; omega))) | (exact k1 _ (by first | assumption | omega | (congr 1; omega)) (by first | assumption | omega | (congr 1; omega))) | (exact k2 (by first | assumption | omega | (congr 1; omega))) | (exact k3 (by first | assumption | omega | (congr 1; omega))) | (exact k4 _ (by first | assumption | omega | (congr 1; omega)) (by first | assumption | omega | (congr 1; omega))) | (exfalso; omega)
theorem s_ofSight {ro : List (List Int32)} {n d : Nat} {p : xH} {Q : Option Value → xH → Prop} {x : Int32} {xi : Int} {y : Int32} {yi : Int} (hx : x.toInt = xi) (hy : y.toInt = yi) (pre0 : 20 ≤ yi) (pre1 : yi ≤ 22) (k0 : (yi = 20) → Q (some (.int (rI p 4 xi.toNat))) p) (k1 : (yi = 21) → Q (some (.int (rI p 5 xi.toNat))) p) (k2 : (yi = 22) → Q (some (.int (rI p 6 xi.toNat))) p) : hP ro n d (11, 3, 1, 1, k135) 0 (lv_args 0 [.ref 0, .int x, .int y]) [] p Q := by
  subst hx
  subst hy
  refine hp_id (ls := [(0, .ref 0), (1, .int x), (2, .int y)]) ?_
  refine hp_s (pc' := 1) (st' := [.int y]) rfl rfl rfl ?_
  by_cases h1 : y.toInt = 20
  ·
    refine hp_sw (v := 20) (t := 28) rfl rfl (h1) rfl ?_
    refine hp_s (pc' := 29) (st' := [.ref 0]) rfl rfl rfl ?_
    refine hp_getr (k := 0) (w := .ref 1) (pc' := 32) rfl rfl rfl rfl rfl ?_
    refine hp_getr (k := 2) (w := .ref 4) (pc' := 35) rfl rfl rfl rfl rfl ?_
    refine hp_s (pc' := 36) (st' := [.int x, .ref 4]) rfl rfl rfl ?_
    refine hp_ld (t := 100) (v := (rI p 4 x.toInt.toNat)) rfl (.inl rfl) rfl rfl rfl ?_
    intro (g1a : 0 ≤ x.toInt) (g1b : x.toInt < 10)
    refine hp_ri rfl rfl ?_
    first | (exact k0 (by first | assumption | omega)) | (exact k1 (by first | assumption | omega)) | (exact k2 (by first | assumption | omega)) | (exfalso; omega)
  by_cases h2 : y.toInt = 21
  ·
    refine hp_sw (v := 21) (t := 38) rfl rfl (h2) rfl ?_
    refine hp_s (pc' := 39) (st' := [.ref 0]) rfl rfl rfl ?_
    refine hp_getr (k := 0) (w := .ref 1) (pc' := 42) rfl rfl rfl rfl rfl ?_
    refine hp_getr (k := 3) (w := .ref 5) (pc' := 45) rfl rfl rfl rfl rfl ?_
    refine hp_s (pc' := 46) (st' := [.int x, .ref 5]) rfl rfl rfl ?_
    refine hp_ld (t := 100) (v := (rI p 5 x.toInt.toNat)) rfl (.inl rfl) rfl rfl rfl ?_
    intro (g2a : 0 ≤ x.toInt) (g2b : x.toInt < 10)
    refine hp_ri rfl rfl ?_
    first | (exact k0 (by first | assumption | omega)) | (exact k1 (by first | assumption | omega)) | (exact k2 (by first | assumption | omega)) | (exfalso; omega)
  refine hp_lsd (x := y) (t := 48) rfl rfl rfl (And.intro (show ((20 : Int) ≠ y.toInt) from (by omega)) (And.intro (show ((21 : Int) ≠ y.toInt) from (by omega)) trivial)) ?_
  refine hp_s (pc' := 49) (st' := [.ref 0]) rfl rfl rfl ?_
  refine hp_getr (k := 0) (w := .ref 1) (pc' := 52) rfl rfl rfl rfl rfl ?_
  refine hp_getr (k := 4) (w := .ref 6) (pc' := 55) rfl rfl rfl rfl rfl ?_
  refine hp_s (pc' := 56) (st' := [.int x, .ref 6]) rfl rfl rfl ?_
  refine hp_ld (t := 100) (v := (rI p 6 x.toInt.toNat)) rfl (.inl rfl) rfl rfl rfl ?_
  intro (g3a : 0 ≤ x.toInt) (g3b : x.toInt < 10)
  refine hp_ri rfl rfl ?_
  first | (exact k0 (by first | assumption | omega)) | (exact k1 (by first | assumption | omega)) | (exact k2 (by first | assumption | omega)) | (exfalso; omega)
theorem X_of {ro : List (List Int32)} {n d : Nat} {p : xH} {Q : Option Value → xH → Prop} {x : Int32} {xi : Int} {y : Int32} {yi : Int} (hx : x.toInt = xi) (hy : y.toInt = yi) (pre0 : (rI p 13 7).toInt ≤ 7) (pre1 : -1 ≤ (rI p 2 xi.toNat).toInt) (pre2 : 0 ≤ (rI p 17 xi.toNat).toInt) (pre3 : (rI p 17 xi.toNat).toInt ≤ 7) (k0 : (¬ (0 ≤ xi ∧ xi < (rI p 13 7).toInt ∧ 0 ≤ yi ∧ yi ≤ 6) ∧ ¬ (0 ≤ xi ∧ xi < (rI p 1 5).toInt ∧ 20 ≤ yi ∧ yi ≤ 22) ∧ ¬ (xi = 0 ∧ 10 ≤ yi ∧ yi ≤ 11)) → Q (some (.int (-2000000000))) p) (k1 : (0 ≤ xi) → (xi < (rI p 13 7).toInt) → (yi = 3) → Q (some (.int (rI p 2 xi.toNat))) p) (k2 : ∀ z : Int32, (0 ≤ xi) → (xi < (rI p 13 7).toInt) → (yi = 4) → (z = hSn (rI p 14 xi.toNat) (rI p 2 xi.toNat)) → Q (some (.int z)) p) (k3 : (0 ≤ xi) → (xi < (rI p 13 7).toInt) → (yi = 5) → Q (some (.int (rI p 17 xi.toNat))) p) (k4 : (0 ≤ xi) → (xi < (rI p 13 7).toInt) → (yi = 6) → Q (some (.int (hSum (fun j => rI p 19 ((4 * xi).toNat + j)) (rI p 17 xi.toNat).toInt.toNat))) p) (k5 : ∀ z : Int32, (0 ≤ xi) → (xi < (rI p 13 7).toInt) → (0 ≤ yi) → (yi ≤ 2) → (z = hTd p xi.toNat yi) → Q (some (.int z)) p) (k6 : (0 ≤ xi) → (xi < (rI p 1 5).toInt) → (yi = 20) → Q (some (.int (rI p 4 xi.toNat))) p) (k7 : (0 ≤ xi) → (xi < (rI p 1 5).toInt) → (yi = 21) → Q (some (.int (rI p 5 xi.toNat))) p) (k8 : (0 ≤ xi) → (xi < (rI p 1 5).toInt) → (yi = 22) → Q (some (.int (rI p 6 xi.toNat))) p) (k9 : (xi = 0) → (yi = 10) → Q (some (.int (rI p 13 8))) p) (k10 : (xi = 0) → (yi = 11) → Q (some (.int (rI p 13 9))) p) : hP ro n d (11, 3, 1, 1, k133) 0 (lv_args 0 [.ref 0, .int x, .int y]) [] p Q := by
  subst hx
  subst hy
  refine hp_id (ls := [(0, .ref 0), (1, .int x), (2, .int y)]) ?_
  refine hp_s (pc' := 1) (st' := [.int y]) rfl rfl rfl ?_
  refine hp_if (pc' := 4) (t := 33) (a := y.toInt) rfl rfl rfl rfl (fun (h1 : y.toInt < 0) => ?_) (fun (h2 : ¬ (y.toInt < 0)) => ?_)
  ·
    refine hp_s (pc' := 34) (st' := [.int y]) rfl rfl rfl ?_
    refine hp_s (pc' := 36) (st' := [.int 20, .int y]) rfl rfl rfl ?_
    refine hp_ic (pc' := 39) (t := 68) (a := y.toInt) (b := 20) rfl rfl rfl rfl (by decide) (fun (h3 : y.toInt < 20) => ?_) (fun (h4 : ¬ (y.toInt < 20)) => ?_)
    ·
      refine hp_s (pc' := 69) (st' := [.int x]) rfl rfl rfl ?_
      refine hp_if (pc' := 72) (t := 75) (a := x.toInt) rfl rfl rfl rfl (fun (h5 : x.toInt = 0) => ?_) (fun (h6 : ¬ (x.toInt = 0)) => ?_)
      ·
        refine hp_s (pc' := 76) (st' := [.int y]) rfl rfl rfl ?_
        refine hp_s (pc' := 78) (st' := [.int 10, .int y]) rfl rfl rfl ?_
        refine hp_ic (pc' := 81) (t := 89) (a := y.toInt) (b := 10) rfl rfl rfl rfl (by decide) (fun (h7 : y.toInt ≠ 10) => ?_) (fun (h8 : ¬ (y.toInt ≠ 10)) => ?_)
        ·
          refine hp_s (pc' := 90) (st' := [.int y]) rfl rfl rfl ?_
          refine hp_s (pc' := 92) (st' := [.int 11, .int y]) rfl rfl rfl ?_
          refine hp_ic (pc' := 95) (t := 105) (a := y.toInt) (b := 11) rfl rfl rfl rfl (by decide) (fun (h9 : y.toInt ≠ 11) => ?_) (fun (h10 : ¬ (y.toInt ≠ 11)) => ?_)
          ·
            refine hp_s (pc' := 107) (st' := [.int (-2000000000)]) rfl rfl rfl ?_
            refine hp_ri rfl rfl ?_
            first | (exact k0 (by first | assumption | omega)) | (exact k1 (by first | assumption | omega) (by first | assumption | omega) (by first | assumption | omega)) | (exact k2 _ (by first | assumption | omega) (by first | assumption | omega) (by first | assumption | omega) (by first | assumption | omega)) | (exact k3 (by first | assumption | omega) (by first | assumption | omega) (by first | assumption | omega)) | (exact k4 (by first | assumption | omega) (by first | assumption | omega) (by first | assumption | omega)) | (exact k5 _ (by first | assumption | omega) (by first | assumption | omega) (by first | assumption | omega) (by first | assumption | omega) (by first | assumption | omega)) | (exact k6 (by first | assumption | omega) (by first | assumption | omega) (by first | assumption | omega)) | (exact k7 (by first | assumption | omega) (by first | assumption | omega) (by first | assumption | omega)) | (exact k8 (by first | assumption | omega) (by first | assumption | omega) (by first | assumption | omega)) | (exact k9 (by first | assumption | omega) (by first | assumption | omega)) | (exact k10 (by first | assumption | omega) (by first | assumption | omega)) | (exfalso; omega)
          ·
            refine hp_s (pc' := 96) (st' := [.ref 0]) rfl rfl rfl ?_
            refine hp_getr (k := 4) (w := .ref 13) (pc' := 99) rfl rfl rfl rfl rfl ?_
            refine hp_get (k := 9) (pc' := 102) (v := (rI p 13 9)) rfl rfl rfl rfl rfl rfl ?_
            refine hp_go (pc' := 107) rfl rfl rfl ?_
            refine hp_ri rfl rfl ?_
            first | (exact k0 (by first | assumption | omega)) | (exact k1 (by first | assumption | omega) (by first | assumption | omega) (by first | assumption | omega)) | (exact k2 _ (by first | assumption | omega) (by first | assumption | omega) (by first | assumption | omega) (by first | assumption | omega)) | (exact k3 (by first | assumption | omega) (by first | assumption | omega) (by first | assumption | omega)) | (exact k4 (by first | assumption | omega) (by first | assumption | omega) (by first | assumption | omega)) | (exact k5 _ (by first | assumption | omega) (by first | assumption | omega) (by first | assumption | omega) (by first | assumption | omega) (by first | assumption | omega)) | (exact k6 (by first | assumption | omega) (by first | assumption | omega) (by first | assumption | omega)) | (exact k7 (by first | assumption | omega) (by first | assumption | omega) (by first | assumption | omega)) | (exact k8 (by first | assumption | omega) (by first | assumption | omega) (by first | assumption | omega)) | (exact k9 (by first | assumption | omega) (by first | assumption | omega)) | (exact k10 (by first | assumption | omega) (by first | assumption | omega)) | (exfalso; omega)
        ·
          refine hp_s (pc' := 82) (st' := [.ref 0]) rfl rfl rfl ?_
          refine hp_getr (k := 4) (w := .ref 13) (pc' := 85) rfl rfl rfl rfl rfl ?_
          refine hp_get (k := 8) (pc' := 88) (v := (rI p 13 8)) rfl rfl rfl rfl rfl rfl ?_
          refine hp_ri rfl rfl ?_
          first | (exact k0 (by first | assumption | omega)) | (exact k1 (by first | assumption | omega) (by first | assumption | omega) (by first | assumption | omega)) | (exact k2 _ (by first | assumption | omega) (by first | assumption | omega) (by first | assumption | omega) (by first | assumption | omega)) | (exact k3 (by first | assumption | omega) (by first | assumption | omega) (by first | assumption | omega)) | (exact k4 (by first | assumption | omega) (by first | assumption | omega) (by first | assumption | omega)) | (exact k5 _ (by first | assumption | omega) (by first | assumption | omega) (by first | assumption | omega) (by first | assumption | omega) (by first | assumption | omega)) | (exact k6 (by first | assumption | omega) (by first | assumption | omega) (by first | assumption | omega)) | (exact k7 (by first | assumption | omega) (by first | assumption | omega) (by first | assumption | omega)) | (exact k8 (by first | assumption | omega) (by first | assumption | omega) (by first | assumption | omega)) | (exact k9 (by first | assumption | omega) (by first | assumption | omega)) | (exact k10 (by first | assumption | omega) (by first | assumption | omega)) | (exfalso; omega)
      ·
        refine hp_s (pc' := 74) (st' := [.int (-2000000000)]) rfl rfl rfl ?_
        refine hp_ri rfl rfl ?_
        first | (exact k0 (by first | assumption | omega)) | (exact k1 (by first | assumption | omega) (by first | assumption | omega) (by first | assumption | omega)) | (exact k2 _ (by first | assumption | omega) (by first | assumption | omega) (by first | assumption | omega) (by first | assumption | omega)) | (exact k3 (by first | assumption | omega) (by first | assumption | omega) (by first | assumption | omega)) | (exact k4 (by first | assumption | omega) (by first | assumption | omega) (by first | assumption | omega)) | (exact k5 _ (by first | assumption | omega) (by first | assumption | omega) (by first | assumption | omega) (by first | assumption | omega) (by first | assumption | omega)) | (exact k6 (by first | assumption | omega) (by first | assumption | omega) (by first | assumption | omega)) | (exact k7 (by first | assumption | omega) (by first | assumption | omega) (by first | assumption | omega)) | (exact k8 (by first | assumption | omega) (by first | assumption | omega) (by first | assumption | omega)) | (exact k9 (by first | assumption | omega) (by first | assumption | omega)) | (exact k10 (by first | assumption | omega) (by first | assumption | omega)) | (exfalso; omega)
    ·
      refine hp_s (pc' := 40) (st' := [.int y]) rfl rfl rfl ?_
      refine hp_s (pc' := 42) (st' := [.int 22, .int y]) rfl rfl rfl ?_
      refine hp_ic (pc' := 45) (t := 68) (a := y.toInt) (b := 22) rfl rfl rfl rfl (by decide) (fun (h11 : 22 < y.toInt) => ?_) (fun (h12 : ¬ (22 < y.toInt)) => ?_)
      ·
        refine hp_s (pc' := 69) (st' := [.int x]) rfl rfl rfl ?_
        refine hp_if (pc' := 72) (t := 75) (a := x.toInt) rfl rfl rfl rfl (fun (h13 : x.toInt = 0) => ?_) (fun (h14 : ¬ (x.toInt = 0)) => ?_)
        ·
          refine hp_s (pc' := 76) (st' := [.int y]) rfl rfl rfl ?_
          refine hp_s (pc' := 78) (st' := [.int 10, .int y]) rfl rfl rfl ?_
          refine hp_ic (pc' := 81) (t := 89) (a := y.toInt) (b := 10) rfl rfl rfl rfl (by decide) (fun (h15 : y.toInt ≠ 10) => ?_) (fun (h16 : ¬ (y.toInt ≠ 10)) => ?_)
          ·
            refine hp_s (pc' := 90) (st' := [.int y]) rfl rfl rfl ?_
            refine hp_s (pc' := 92) (st' := [.int 11, .int y]) rfl rfl rfl ?_
            refine hp_ic (pc' := 95) (t := 105) (a := y.toInt) (b := 11) rfl rfl rfl rfl (by decide) (fun (h17 : y.toInt ≠ 11) => ?_) (fun (h18 : ¬ (y.toInt ≠ 11)) => ?_)
            ·
              refine hp_s (pc' := 107) (st' := [.int (-2000000000)]) rfl rfl rfl ?_
              refine hp_ri rfl rfl ?_
              first | (exact k0 (by first | assumption | omega)) | (exact k1 (by first | assumption | omega) (by first | assumption | omega) (by first | assumption | omega)) | (exact k2 _ (by first | assumption | omega) (by first | assumption | omega) (by first | assumption | omega) (by first | assumption | omega)) | (exact k3 (by first | assumption | omega) (by first | assumption | omega) (by first | assumption | omega)) | (exact k4 (by first | assumption | omega) (by first | assumption | omega) (by first | assumption | omega)) | (exact k5 _ (by first | assumption | omega) (by first | assumption | omega) (by first | assumption | omega) (by first | assumption | omega) (by first | assumption | omega)) | (exact k6 (by first | assumption | omega) (by first | assumption | omega) (by first | assumption | omega)) | (exact k7 (by first | assumption | omega) (by first | assumption | omega) (by first | assumption | omega)) | (exact k8 (by first | assumption | omega) (by first | assumption | omega) (by first | assumption | omega)) | (exact k9 (by first | assumption | omega) (by first | assumption | omega)) | (exact k10 (by first | assumption | omega) (by first | assumption | omega)) | (exfalso; omega)
            ·
              refine hp_s (pc' := 96) (st' := [.ref 0]) rfl rfl rfl ?_
              refine hp_getr (k := 4) (w := .ref 13) (pc' := 99) rfl rfl rfl rfl rfl ?_
              refine hp_get (k := 9) (pc' := 102) (v := (rI p 13 9)) rfl rfl rfl rfl rfl rfl ?_
              refine hp_go (pc' := 107) rfl rfl rfl ?_
              refine hp_ri rfl rfl ?_
              first | (exact k0 (by first | assumption | omega)) | (exact k1 (by first | assumption | omega) (by first | assumption | omega) (by first | assumption | omega)) | (exact k2 _ (by first | assumption | omega) (by first | assumption | omega) (by first | assumption | omega) (by first | assumption | omega)) | (exact k3 (by first | assumption | omega) (by first | assumption | omega) (by first | assumption | omega)) | (exact k4 (by first | assumption | omega) (by first | assumption | omega) (by first | assumption | omega)) | (exact k5 _ (by first | assumption | omega) (by first | assumption | omega) (by first | assumption | omega) (by first | assumption | omega) (by first | assumption | omega)) | (exact k6 (by first | assumption | omega) (by first | assumption | omega) (by first | assumption | omega)) | (exact k7 (by first | assumption | omega) (by first | assumption | omega) (by first | assumption | omega)) | (exact k8 (by first | assumption | omega) (by first | assumption | omega) (by first | assumption | omega)) | (exact k9 (by first | assumption | omega) (by first | assumption | omega)) | (exact k10 (by first | assumption | omega) (by first | assumption | omega)) | (exfalso; omega)
          ·
            refine hp_s (pc' := 82) (st' := [.ref 0]) rfl rfl rfl ?_
            refine hp_getr (k := 4) (w := .ref 13) (pc' := 85) rfl rfl rfl rfl rfl ?_
            refine hp_get (k := 8) (pc' := 88) (v := (rI p 13 8)) rfl rfl rfl rfl rfl rfl ?_
            refine hp_ri rfl rfl ?_
            first | (exact k0 (by first | assumption | omega)) | (exact k1 (by first | assumption | omega) (by first | assumption | omega) (by first | assumption | omega)) | (exact k2 _ (by first | assumption | omega) (by first | assumption | omega) (by first | assumption | omega) (by first | assumption | omega)) | (exact k3 (by first | assumption | omega) (by first | assumption | omega) (by first | assumption | omega)) | (exact k4 (by first | assumption | omega) (by first | assumption | omega) (by first | assumption | omega)) | (exact k5 _ (by first | assumption | omega) (by first | assumption | omega) (by first | assumption | omega) (by first | assumption | omega) (by first | assumption | omega)) | (exact k6 (by first | assumption | omega) (by first | assumption | omega) (by first | assumption | omega)) | (exact k7 (by first | assumption | omega) (by first | assumption | omega) (by first | assumption | omega)) | (exact k8 (by first | assumption | omega) (by first | assumption | omega) (by first | assumption | omega)) | (exact k9 (by first | assumption | omega) (by first | assumption | omega)) | (exact k10 (by first | assumption | omega) (by first | assumption | omega)) | (exfalso; omega)
        ·
          refine hp_s (pc' := 74) (st' := [.int (-2000000000)]) rfl rfl rfl ?_
          refine hp_ri rfl rfl ?_
          first | (exact k0 (by first | assumption | omega)) | (exact k1 (by first | assumption | omega) (by first | assumption | omega) (by first | assumption | omega)) | (exact k2 _ (by first | assumption | omega) (by first | assumption | omega) (by first | assumption | omega) (by first | assumption | omega)) | (exact k3 (by first | assumption | omega) (by first | assumption | omega) (by first | assumption | omega)) | (exact k4 (by first | assumption | omega) (by first | assumption | omega) (by first | assumption | omega)) | (exact k5 _ (by first | assumption | omega) (by first | assumption | omega) (by first | assumption | omega) (by first | assumption | omega) (by first | assumption | omega)) | (exact k6 (by first | assumption | omega) (by first | assumption | omega) (by first | assumption | omega)) | (exact k7 (by first | assumption | omega) (by first | assumption | omega) (by first | assumption | omega)) | (exact k8 (by first | assumption | omega) (by first | assumption | omega) (by first | assumption | omega)) | (exact k9 (by first | assumption | omega) (by first | assumption | omega)) | (exact k10 (by first | assumption | omega) (by first | assumption | omega)) | (exfalso; omega)
      ·
        refine hp_s (pc' := 46) (st' := [.ref 0]) rfl rfl rfl ?_
        refine hp_getr (k := 0) (w := .ref 1) (pc' := 49) rfl rfl rfl rfl rfl ?_
        refine hp_s (pc' := 50) (st' := [.int x, .ref 1]) rfl rfl rfl ?_
        refine hp_cv (r := 1) (o := 5) (kd := 1) (as := [.int x]) (rest := []) (pc' := 53) rfl rfl rfl rfl rfl rfl rfl rfl rfl (fun d1 => ?_)
        refine s_hasSight (xi := x.toInt) rfl ?_ ?_
        ·
          intro h19 h20
          refine hp_id (st := [.int 1]) ?_
          refine hp_go (pc' := 56) rfl rfl rfl ?_
          refine hp_s (pc' := 57) (st' := [.ref 0]) rfl rfl rfl ?_
          refine hp_s (pc' := 58) (st' := [.int x, .ref 0]) rfl rfl rfl ?_
          refine hp_s (pc' := 59) (st' := [.int y, .int x, .ref 0]) rfl rfl rfl ?_
          refine hp_cv (r := 0) (o := 11) (kd := 1) (as := [.int x, .int y]) (rest := []) (pc' := 62) rfl rfl rfl rfl rfl rfl rfl rfl rfl (fun d2 => ?_)
          refine s_ofSight (xi := x.toInt) rfl (yi := y.toInt) rfl (by first | assumption | omega) (by first | assumption | omega) ?_ ?_ ?_
          ·
            intro h21
            refine hp_id (st := [.int (rI p 4 x.toInt.toNat)]) ?_
            refine hp_go (pc' := 67) rfl rfl rfl ?_
            refine hp_ri rfl rfl ?_
            first | (exact k0 (by first | assumption | omega)) | (exact k1 (by first | assumption | omega) (by first | assumption | omega) (by first | assumption | omega)) | (exact k2 _ (by first | assumption | omega) (by first | assumption | omega) (by first | assumption | omega) (by first | assumption | omega)) | (exact k3 (by first | assumption | omega) (by first | assumption | omega) (by first | assumption | omega)) | (exact k4 (by first | assumption | omega) (by first | assumption | omega) (by first | assumption | omega)) | (exact k5 _ (by first | assumption | omega) (by first | assumption | omega) (by first | assumption | omega) (by first | assumption | omega) (by first | assumption | omega)) | (exact k6 (by first | assumption | omega) (by first | assumption | omega) (by first | assumption | omega)) | (exact k7 (by first | assumption | omega) (by first | assumption | omega) (by first | assumption | omega)) | (exact k8 (by first | assumption | omega) (by first | assumption | omega) (by first | assumption | omega)) | (exact k9 (by first | assumption | omega) (by first | assumption | omega)) | (exact k10 (by first | assumption | omega) (by first | assumption | omega)) | (exfalso; omega)
          ·
            intro h22
            refine hp_id (st := [.int (rI p 5 x.toInt.toNat)]) ?_
            refine hp_go (pc' := 67) rfl rfl rfl ?_
            refine hp_ri rfl rfl ?_
            first | (exact k0 (by first | assumption | omega)) | (exact k1 (by first | assumption | omega) (by first | assumption | omega) (by first | assumption | omega)) | (exact k2 _ (by first | assumption | omega) (by first | assumption | omega) (by first | assumption | omega) (by first | assumption | omega)) | (exact k3 (by first | assumption | omega) (by first | assumption | omega) (by first | assumption | omega)) | (exact k4 (by first | assumption | omega) (by first | assumption | omega) (by first | assumption | omega)) | (exact k5 _ (by first | assumption | omega) (by first | assumption | omega) (by first | assumption | omega) (by first | assumption | omega) (by first | assumption | omega)) | (exact k6 (by first | assumption | omega) (by first | assumption | omega) (by first | assumption | omega)) | (exact k7 (by first | assumption | omega) (by first | assumption | omega) (by first | assumption | omega)) | (exact k8 (by first | assumption | omega) (by first | assumption | omega) (by first | assumption | omega)) | (exact k9 (by first | assumption | omega) (by first | assumption | omega)) | (exact k10 (by first | assumption | omega) (by first | assumption | omega)) | (exfalso; omega)
          ·
            intro h23
            refine hp_id (st := [.int (rI p 6 x.toInt.toNat)]) ?_
            refine hp_go (pc' := 67) rfl rfl rfl ?_
            refine hp_ri rfl rfl ?_
            first | (exact k0 (by first | assumption | omega)) | (exact k1 (by first | assumption | omega) (by first | assumption | omega) (by first | assumption | omega)) | (exact k2 _ (by first | assumption | omega) (by first | assumption | omega) (by first | assumption | omega) (by first | assumption | omega)) | (exact k3 (by first | assumption | omega) (by first | assumption | omega) (by first | assumption | omega)) | (exact k4 (by first | assumption | omega) (by first | assumption | omega) (by first | assumption | omega)) | (exact k5 _ (by first | assumption | omega) (by first | assumption | omega) (by first | assumption | omega) (by first | assumption | omega) (by first | assumption | omega)) | (exact k6 (by first | assumption | omega) (by first | assumption | omega) (by first | assumption | omega)) | (exact k7 (by first | assumption | omega) (by first | assumption | omega) (by first | assumption | omega)) | (exact k8 (by first | assumption | omega) (by first | assumption | omega) (by first | assumption | omega)) | (exact k9 (by first | assumption | omega) (by first | assumption | omega)) | (exact k10 (by first | assumption | omega) (by first | assumption | omega)) | (exfalso; omega)
        ·
          intro h24
          refine hp_id (st := [.int 0]) ?_
          refine hp_go (pc' := 65) rfl rfl rfl ?_
          refine hp_s (pc' := 67) (st' := [.int (-2000000000)]) rfl rfl rfl ?_
          refine hp_ri rfl rfl ?_
          first | (exact k0 (by first | assumption | omega)) | (exact k1 (by first | assumption | omega) (by first | assumption | omega) (by first | assumption | omega)) | (exact k2 _ (by first | assumption | omega) (by first | assumption | omega) (by first | assumption | omega) (by first | assumption | omega)) | (exact k3 (by first | assumption | omega) (by first | assumption | omega) (by first | assumption | omega)) | (exact k4 (by first | assumption | omega) (by first | assumption | omega) (by first | assumption | omega)) | (exact k5 _ (by first | assumption | omega) (by first | assumption | omega) (by first | assumption | omega) (by first | assumption | omega) (by first | assumption | omega)) | (exact k6 (by first | assumption | omega) (by first | assumption | omega) (by first | assumption | omega)) | (exact k7 (by first | assumption | omega) (by first | assumption | omega) (by first | assumption | omega)) | (exact k8 (by first | assumption | omega) (by first | assumption | omega) (by first | assumption | omega)) | (exact k9 (by first | assumption | omega) (by first | assumption | omega)) | (exact k10 (by first | assumption | omega) (by first | assumption | omega)) | (exfalso; omega)
  ·
    refine hp_s (pc' := 5) (st' := [.int y]) rfl rfl rfl ?_
    refine hp_s (pc' := 7) (st' := [.int 6, .int y]) rfl rfl rfl ?_
    refine hp_ic (pc' := 10) (t := 33) (a := y.toInt) (b := 6) rfl rfl rfl rfl (by decide) (fun (h25 : 6 < y.toInt) => ?_) (fun (h26 : ¬ (6 < y.toInt)) => ?_)
    ·
      refine hp_s (pc' := 34) (st' := [.int y]) rfl rfl rfl ?_
      refine hp_s (pc' := 36) (st' := [.int 20, .int y]) rfl rfl rfl ?_
      refine hp_ic (pc' := 39) (t := 68) (a := y.toInt) (b := 20) rfl rfl rfl rfl (by decide) (fun (h27 : y.toInt < 20) => ?_) (fun (h28 : ¬ (y.toInt < 20)) => ?_)
      ·
        refine hp_s (pc' := 69) (st' := [.int x]) rfl rfl rfl ?_
        refine hp_if (pc' := 72) (t := 75) (a := x.toInt) rfl rfl rfl rfl (fun (h29 : x.toInt = 0) => ?_) (fun (h30 : ¬ (x.toInt = 0)) => ?_)
        ·
          refine hp_s (pc' := 76) (st' := [.int y]) rfl rfl rfl ?_
          refine hp_s (pc' := 78) (st' := [.int 10, .int y]) rfl rfl rfl ?_
          refine hp_ic (pc' := 81) (t := 89) (a := y.toInt) (b := 10) rfl rfl rfl rfl (by decide) (fun (h31 : y.toInt ≠ 10) => ?_) (fun (h32 : ¬ (y.toInt ≠ 10)) => ?_)
          ·
            refine hp_s (pc' := 90) (st' := [.int y]) rfl rfl rfl ?_
            refine hp_s (pc' := 92) (st' := [.int 11, .int y]) rfl rfl rfl ?_
            refine hp_ic (pc' := 95) (t := 105) (a := y.toInt) (b := 11) rfl rfl rfl rfl (by decide) (fun (h33 : y.toInt ≠ 11) => ?_) (fun (h34 : ¬ (y.toInt ≠ 11)) => ?_)
            ·
              refine hp_s (pc' := 107) (st' := [.int (-2000000000)]) rfl rfl rfl ?_
              refine hp_ri rfl rfl ?_
              first | (exact k0 (by first | assumption | omega)) | (exact k1 (by first | assumption | omega) (by first | assumption | omega) (by first | assumption | omega)) | (exact k2 _ (by first | assumption | omega) (by first | assumption | omega) (by first | assumption | omega) (by first | assumption | omega)) | (exact k3 (by first | assumption | omega) (by first | assumption | omega) (by first | assumption | omega)) | (exact k4 (by first | assumption | omega) (by first | assumption | omega) (by first | assumption | omega)) | (exact k5 _ (by first | assumption | omega) (by first | assumption | omega) (by first | assumption | omega) (by first | assumption | omega) (by first | assumption | omega)) | (exact k6 (by first | assumption | omega) (by first | assumption | omega) (by first | assumption | omega)) | (exact k7 (by first | assumption | omega) (by first | assumption | omega) (by first | assumption | omega)) | (exact k8 (by first | assumption | omega) (by first | assumption | omega) (by first | assumption | omega)) | (exact k9 (by first | assumption | omega) (by first | assumption | omega)) | (exact k10 (by first | assumption | omega) (by first | assumption | omega)) | (exfalso; omega)
            ·
              refine hp_s (pc' := 96) (st' := [.ref 0]) rfl rfl rfl ?_
              refine hp_getr (k := 4) (w := .ref 13) (pc' := 99) rfl rfl rfl rfl rfl ?_
              refine hp_get (k := 9) (pc' := 102) (v := (rI p 13 9)) rfl rfl rfl rfl rfl rfl ?_
              refine hp_go (pc' := 107) rfl rfl rfl ?_
              refine hp_ri rfl rfl ?_
              first | (exact k0 (by first | assumption | omega)) | (exact k1 (by first | assumption | omega) (by first | assumption | omega) (by first | assumption | omega)) | (exact k2 _ (by first | assumption | omega) (by first | assumption | omega) (by first | assumption | omega) (by first | assumption | omega)) | (exact k3 (by first | assumption | omega) (by first | assumption | omega) (by first | assumption | omega)) | (exact k4 (by first | assumption | omega) (by first | assumption | omega) (by first | assumption | omega)) | (exact k5 _ (by first | assumption | omega) (by first | assumption | omega) (by first | assumption | omega) (by first | assumption | omega) (by first | assumption | omega)) | (exact k6 (by first | assumption | omega) (by first | assumption | omega) (by first | assumption | omega)) | (exact k7 (by first | assumption | omega) (by first | assumption | omega) (by first | assumption | omega)) | (exact k8 (by first | assumption | omega) (by first | assumption | omega) (by first | assumption | omega)) | (exact k9 (by first | assumption | omega) (by first | assumption | omega)) | (exact k10 (by first | assumption | omega) (by first | assumption | omega)) | (exfalso; omega)
          ·
            refine hp_s (pc' := 82) (st' := [.ref 0]) rfl rfl rfl ?_
            refine hp_getr (k := 4) (w := .ref 13) (pc' := 85) rfl rfl rfl rfl rfl ?_
            refine hp_get (k := 8) (pc' := 88) (v := (rI p 13 8)) rfl rfl rfl rfl rfl rfl ?_
            refine hp_ri rfl rfl ?_
            first | (exact k0 (by first | assumption | omega)) | (exact k1 (by first | assumption | omega) (by first | assumption | omega) (by first | assumption | omega)) | (exact k2 _ (by first | assumption | omega) (by first | assumption | omega) (by first | assumption | omega) (by first | assumption | omega)) | (exact k3 (by first | assumption | omega) (by first | assumption | omega) (by first | assumption | omega)) | (exact k4 (by first | assumption | omega) (by first | assumption | omega) (by first | assumption | omega)) | (exact k5 _ (by first | assumption | omega) (by first | assumption | omega) (by first | assumption | omega) (by first | assumption | omega) (by first | assumption | omega)) | (exact k6 (by first | assumption | omega) (by first | assumption | omega) (by first | assumption | omega)) | (exact k7 (by first | assumption | omega) (by first | assumption | omega) (by first | assumption | omega)) | (exact k8 (by first | assumption | omega) (by first | assumption | omega) (by first | assumption | omega)) | (exact k9 (by first | assumption | omega) (by first | assumption | omega)) | (exact k10 (by first | assumption | omega) (by first | assumption | omega)) | (exfalso; omega)
        ·
          refine hp_s (pc' := 74) (st' := [.int (-2000000000)]) rfl rfl rfl ?_
          refine hp_ri rfl rfl ?_
          first | (exact k0 (by first | assumption | omega)) | (exact k1 (by first | assumption | omega) (by first | assumption | omega) (by first | assumption | omega)) | (exact k2 _ (by first | assumption | omega) (by first | assumption | omega) (by first | assumption | omega) (by first | assumption | omega)) | (exact k3 (by first | assumption | omega) (by first | assumption | omega) (by first | assumption | omega)) | (exact k4 (by first | assumption | omega) (by first | assumption | omega) (by first | assumption | omega)) | (exact k5 _ (by first | assumption | omega) (by first | assumption | omega) (by first | assumption | omega) (by first | assumption | omega) (by first | assumption | omega)) | (exact k6 (by first | assumption | omega) (by first | assumption | omega) (by first | assumption | omega)) | (exact k7 (by first | assumption | omega) (by first | assumption | omega) (by first | assumption | omega)) | (exact k8 (by first | assumption | omega) (by first | assumption | omega) (by first | assumption | omega)) | (exact k9 (by first | assumption | omega) (by first | assumption | omega)) | (exact k10 (by first | assumption | omega) (by first | assumption | omega)) | (exfalso; omega)
      ·
        refine hp_s (pc' := 40) (st' := [.int y]) rfl rfl rfl ?_
        refine hp_s (pc' := 42) (st' := [.int 22, .int y]) rfl rfl rfl ?_
        refine hp_ic (pc' := 45) (t := 68) (a := y.toInt) (b := 22) rfl rfl rfl rfl (by decide) (fun (h35 : 22 < y.toInt) => ?_) (fun (h36 : ¬ (22 < y.toInt)) => ?_)
        ·
          refine hp_s (pc' := 69) (st' := [.int x]) rfl rfl rfl ?_
          refine hp_if (pc' := 72) (t := 75) (a := x.toInt) rfl rfl rfl rfl (fun (h37 : x.toInt = 0) => ?_) (fun (h38 : ¬ (x.toInt = 0)) => ?_)
          ·
            refine hp_s (pc' := 76) (st' := [.int y]) rfl rfl rfl ?_
            refine hp_s (pc' := 78) (st' := [.int 10, .int y]) rfl rfl rfl ?_
            refine hp_ic (pc' := 81) (t := 89) (a := y.toInt) (b := 10) rfl rfl rfl rfl (by decide) (fun (h39 : y.toInt ≠ 10) => ?_) (fun (h40 : ¬ (y.toInt ≠ 10)) => ?_)
            ·
              refine hp_s (pc' := 90) (st' := [.int y]) rfl rfl rfl ?_
              refine hp_s (pc' := 92) (st' := [.int 11, .int y]) rfl rfl rfl ?_
              refine hp_ic (pc' := 95) (t := 105) (a := y.toInt) (b := 11) rfl rfl rfl rfl (by decide) (fun (h41 : y.toInt ≠ 11) => ?_) (fun (h42 : ¬ (y.toInt ≠ 11)) => ?_)
              ·
                refine hp_s (pc' := 107) (st' := [.int (-2000000000)]) rfl rfl rfl ?_
                refine hp_ri rfl rfl ?_
                first | (exact k0 (by first | assumption | omega)) | (exact k1 (by first | assumption | omega) (by first | assumption | omega) (by first | assumption | omega)) | (exact k2 _ (by first | assumption | omega) (by first | assumption | omega) (by first | assumption | omega) (by first | assumption | omega)) | (exact k3 (by first | assumption | omega) (by first | assumption | omega) (by first | assumption | omega)) | (exact k4 (by first | assumption | omega) (by first | assumption | omega) (by first | assumption | omega)) | (exact k5 _ (by first | assumption | omega) (by first | assumption | omega) (by first | assumption | omega) (by first | assumption | omega) (by first | assumption | omega)) | (exact k6 (by first | assumption | omega) (by first | assumption | omega) (by first | assumption | omega)) | (exact k7 (by first | assumption | omega) (by first | assumption | omega) (by first | assumption | omega)) | (exact k8 (by first | assumption | omega) (by first | assumption | omega) (by first | assumption | omega)) | (exact k9 (by first | assumption | omega) (by first | assumption | omega)) | (exact k10 (by first | assumption | omega) (by first | assumption | omega)) | (exfalso; omega)
              ·
                refine hp_s (pc' := 96) (st' := [.ref 0]) rfl rfl rfl ?_
                refine hp_getr (k := 4) (w := .ref 13) (pc' := 99) rfl rfl rfl rfl rfl ?_
                refine hp_get (k := 9) (pc' := 102) (v := (rI p 13 9)) rfl rfl rfl rfl rfl rfl ?_
                refine hp_go (pc' := 107) rfl rfl rfl ?_
                refine hp_ri rfl rfl ?_
                first | (exact k0 (by first | assumption | omega)) | (exact k1 (by first | assumption | omega) (by first | assumption | omega) (by first | assumption | omega)) | (exact k2 _ (by first | assumption | omega) (by first | assumption | omega) (by first | assumption | omega) (by first | assumption | omega)) | (exact k3 (by first | assumption | omega) (by first | assumption | omega) (by first | assumption | omega)) | (exact k4 (by first | assumption | omega) (by first | assumption | omega) (by first | assumption | omega)) | (exact k5 _ (by first | assumption | omega) (by first | assumption | omega) (by first | assumption | omega) (by first | assumption | omega) (by first | assumption | omega)) | (exact k6 (by first | assumption | omega) (by first | assumption | omega) (by first | assumption | omega)) | (exact k7 (by first | assumption | omega) (by first | assumption | omega) (by first | assumption | omega)) | (exact k8 (by first | assumption | omega) (by first | assumption | omega) (by first | assumption | omega)) | (exact k9 (by first | assumption | omega) (by first | assumption | omega)) | (exact k10 (by first | assumption | omega) (by first | assumption | omega)) | (exfalso; omega)
            ·
              refine hp_s (pc' := 82) (st' := [.ref 0]) rfl rfl rfl ?_
              refine hp_getr (k := 4) (w := .ref 13) (pc' := 85) rfl rfl rfl rfl rfl ?_
              refine hp_get (k := 8) (pc' := 88) (v := (rI p 13 8)) rfl rfl rfl rfl rfl rfl ?_
              refine hp_ri rfl rfl ?_
              first | (exact k0 (by first | assumption | omega)) | (exact k1 (by first | assumption | omega) (by first | assumption | omega) (by first | assumption | omega)) | (exact k2 _ (by first | assumption | omega) (by first | assumption | omega) (by first | assumption | omega) (by first | assumption | omega)) | (exact k3 (by first | assumption | omega) (by first | assumption | omega) (by first | assumption | omega)) | (exact k4 (by first | assumption | omega) (by first | assumption | omega) (by first | assumption | omega)) | (exact k5 _ (by first | assumption | omega) (by first | assumption | omega) (by first | assumption | omega) (by first | assumption | omega) (by first | assumption | omega)) | (exact k6 (by first | assumption | omega) (by first | assumption | omega) (by first | assumption | omega)) | (exact k7 (by first | assumption | omega) (by first | assumption | omega) (by first | assumption | omega)) | (exact k8 (by first | assumption | omega) (by first | assumption | omega) (by first | assumption | omega)) | (exact k9 (by first | assumption | omega) (by first | assumption | omega)) | (exact k10 (by first | assumption | omega) (by first | assumption | omega)) | (exfalso; omega)
          ·
            refine hp_s (pc' := 74) (st' := [.int (-2000000000)]) rfl rfl rfl ?_
            refine hp_ri rfl rfl ?_
            first | (exact k0 (by first | assumption | omega)) | (exact k1 (by first | assumption | omega) (by first | assumption | omega) (by first | assumption | omega)) | (exact k2 _ (by first | assumption | omega) (by first | assumption | omega) (by first | assumption | omega) (by first | assumption | omega)) | (exact k3 (by first | assumption | omega) (by first | assumption | omega) (by first | assumption | omega)) | (exact k4 (by first | assumption | omega) (by first | assumption | omega) (by first | assumption | omega)) | (exact k5 _ (by first | assumption | omega) (by first | assumption | omega) (by first | assumption | omega) (by first | assumption | omega) (by first | assumption | omega)) | (exact k6 (by first | assumption | omega) (by first | assumption | omega) (by first | assumption | omega)) | (exact k7 (by first | assumption | omega) (by first | assumption | omega) (by first | assumption | omega)) | (exact k8 (by first | assumption | omega) (by first | assumption | omega) (by first | assumption | omega)) | (exact k9 (by first | assumption | omega) (by first | assumption | omega)) | (exact k10 (by first | assumption | omega) (by first | assumption | omega)) | (exfalso; omega)
        ·
          refine hp_s (pc' := 46) (st' := [.ref 0]) rfl rfl rfl ?_
          refine hp_getr (k := 0) (w := .ref 1) (pc' := 49) rfl rfl rfl rfl rfl ?_
          refine hp_s (pc' := 50) (st' := [.int x, .ref 1]) rfl rfl rfl ?_
          refine hp_cv (r := 1) (o := 5) (kd := 1) (as := [.int x]) (rest := []) (pc' := 53) rfl rfl rfl rfl rfl rfl rfl rfl rfl (fun d3 => ?_)
          refine s_hasSight (xi := x.toInt) rfl ?_ ?_
          ·
            intro h43 h44
            refine hp_id (st := [.int 1]) ?_
            refine hp_go (pc' := 56) rfl rfl rfl ?_
            refine hp_s (pc' := 57) (st' := [.ref 0]) rfl rfl rfl ?_
            refine hp_s (pc' := 58) (st' := [.int x, .ref 0]) rfl rfl rfl ?_
            refine hp_s (pc' := 59) (st' := [.int y, .int x, .ref 0]) rfl rfl rfl ?_
            refine hp_cv (r := 0) (o := 11) (kd := 1) (as := [.int x, .int y]) (rest := []) (pc' := 62) rfl rfl rfl rfl rfl rfl rfl rfl rfl (fun d4 => ?_)
            refine s_ofSight (xi := x.toInt) rfl (yi := y.toInt) rfl (by first | assumption | omega) (by first | assumption | omega) ?_ ?_ ?_
            ·
              intro h45
              refine hp_id (st := [.int (rI p 4 x.toInt.toNat)]) ?_
              refine hp_go (pc' := 67) rfl rfl rfl ?_
              refine hp_ri rfl rfl ?_
              first | (exact k0 (by first | assumption | omega)) | (exact k1 (by first | assumption | omega) (by first | assumption | omega) (by first | assumption | omega)) | (exact k2 _ (by first | assumption | omega) (by first | assumption | omega) (by first | assumption | omega) (by first | assumption | omega)) | (exact k3 (by first | assumption | omega) (by first | assumption | omega) (by first | assumption | omega)) | (exact k4 (by first | assumption | omega) (by first | assumption | omega) (by first | assumption | omega)) | (exact k5 _ (by first | assumption | omega) (by first | assumption | omega) (by first | assumption | omega) (by first | assumption | omega) (by first | assumption | omega)) | (exact k6 (by first | assumption | omega) (by first | assumption | omega) (by first | assumption | omega)) | (exact k7 (by first | assumption | omega) (by first | assumption | omega) (by first | assumption | omega)) | (exact k8 (by first | assumption | omega) (by first | assumption | omega) (by first | assumption | omega)) | (exact k9 (by first | assumption | omega) (by first | assumption | omega)) | (exact k10 (by first | assumption | omega) (by first | assumption | omega)) | (exfalso; omega)
            ·
              intro h46
              refine hp_id (st := [.int (rI p 5 x.toInt.toNat)]) ?_
              refine hp_go (pc' := 67) rfl rfl rfl ?_
              refine hp_ri rfl rfl ?_
              first | (exact k0 (by first | assumption | omega)) | (exact k1 (by first | assumption | omega) (by first | assumption | omega) (by first | assumption | omega)) | (exact k2 _ (by first | assumption | omega) (by first | assumption | omega) (by first | assumption | omega) (by first | assumption | omega)) | (exact k3 (by first | assumption | omega) (by first | assumption | omega) (by first | assumption | omega)) | (exact k4 (by first | assumption | omega) (by first | assumption | omega) (by first | assumption | omega)) | (exact k5 _ (by first | assumption | omega) (by first | assumption | omega) (by first | assumption | omega) (by first | assumption | omega) (by first | assumption | omega)) | (exact k6 (by first | assumption | omega) (by first | assumption | omega) (by first | assumption | omega)) | (exact k7 (by first | assumption | omega) (by first | assumption | omega) (by first | assumption | omega)) | (exact k8 (by first | assumption | omega) (by first | assumption | omega) (by first | assumption | omega)) | (exact k9 (by first | assumption | omega) (by first | assumption | omega)) | (exact k10 (by first | assumption | omega) (by first | assumption | omega)) | (exfalso; omega)
            ·
              intro h47
              refine hp_id (st := [.int (rI p 6 x.toInt.toNat)]) ?_
              refine hp_go (pc' := 67) rfl rfl rfl ?_
              refine hp_ri rfl rfl ?_
              first | (exact k0 (by first | assumption | omega)) | (exact k1 (by first | assumption | omega) (by first | assumption | omega) (by first | assumption | omega)) | (exact k2 _ (by first | assumption | omega) (by first | assumption | omega) (by first | assumption | omega) (by first | assumption | omega)) | (exact k3 (by first | assumption | omega) (by first | assumption | omega) (by first | assumption | omega)) | (exact k4 (by first | assumption | omega) (by first | assumption | omega) (by first | assumption | omega)) | (exact k5 _ (by first | assumption | omega) (by first | assumption | omega) (by first | assumption | omega) (by first | assumption | omega) (by first | assumption | omega)) | (exact k6 (by first | assumption | omega) (by first | assumption | omega) (by first | assumption | omega)) | (exact k7 (by first | assumption | omega) (by first | assumption | omega) (by first | assumption | omega)) | (exact k8 (by first | assumption | omega) (by first | assumption | omega) (by first | assumption | omega)) | (exact k9 (by first | assumption | omega) (by first | assumption | omega)) | (exact k10 (by first | assumption | omega) (by first | assumption | omega)) | (exfalso; omega)
          ·
            intro h48
            refine hp_id (st := [.int 0]) ?_
            refine hp_go (pc' := 65) rfl rfl rfl ?_
            refine hp_s (pc' := 67) (st' := [.int (-2000000000)]) rfl rfl rfl ?_
            refine hp_ri rfl rfl ?_
            first | (exact k0 (by first | assumption | omega)) | (exact k1 (by first | assumption | omega) (by first | assumption | omega) (by first | assumption | omega)) | (exact k2 _ (by first | assumption | omega) (by first | assumption | omega) (by first | assumption | omega) (by first | assumption | omega)) | (exact k3 (by first | assumption | omega) (by first | assumption | omega) (by first | assumption | omega)) | (exact k4 (by first | assumption | omega) (by first | assumption | omega) (by first | assumption | omega)) | (exact k5 _ (by first | assumption | omega) (by first | assumption | omega) (by first | assumption | omega) (by first | assumption | omega) (by first | assumption | omega)) | (exact k6 (by first | assumption | omega) (by first | assumption | omega) (by first | assumption | omega)) | (exact k7 (by first | assumption | omega) (by first | assumption | omega) (by first | assumption | omega)) | (exact k8 (by first | assumption | omega) (by first | assumption | omega) (by first | assumption | omega)) | (exact k9 (by first | assumption | omega) (by first | assumption | omega)) | (exact k10 (by first | assumption | omega) (by first | assumption | omega)) | (exfalso; omega)
    ·
      refine hp_s (pc' := 11) (st' := [.ref 0]) rfl rfl rfl ?_
      refine hp_getr (k := 4) (w := .ref 13) (pc' := 14) rfl rfl rfl rfl rfl ?_
      refine hp_s (pc' := 15) (st' := [.int x, .ref 13]) rfl rfl rfl ?_
      refine hp_cv (r := 13) (o := 1) (kd := 1) (as := [.int x]) (rest := []) (pc' := 18) rfl rfl rfl rfl rfl rfl rfl rfl rfl (fun d5 => ?_)
      refine s_has (xi := x.toInt) rfl ?_ ?_
      ·
        intro h49 h50
        refine hp_id (st := [.int 1]) ?_
        refine hp_go (pc' := 21) rfl rfl rfl ?_
        refine hp_s (pc' := 22) (st' := [.ref 0]) rfl rfl rfl ?_
        refine hp_s (pc' := 23) (st' := [.int x, .ref 0]) rfl rfl rfl ?_
        refine hp_s (pc' := 24) (st' := [.int y, .int x, .ref 0]) rfl rfl rfl ?_
        refine hp_cv (r := 0) (o := 11) (kd := 1) (as := [.int x, .int y]) (rest := []) (pc' := 27) rfl rfl rfl rfl rfl rfl rfl rfl rfl (fun d6 => ?_)
        refine s_ofPerson (xi := x.toInt) rfl (yi := y.toInt) rfl (by first | assumption | omega) (by first | assumption | omega) (by first | assumption | omega) (by first | assumption | omega) (by first | assumption | omega) (by first | assumption | omega) (by first | assumption | omega) ?_ ?_ ?_ ?_ ?_
        ·
          intro h51
          refine hp_id (st := [.int (rI p 2 x.toInt.toNat)]) ?_
          refine hp_go (pc' := 32) rfl rfl rfl ?_
          refine hp_ri rfl rfl ?_
          first | (exact k0 (by first | assumption | omega)) | (exact k1 (by first | assumption | omega) (by first | assumption | omega) (by first | assumption | omega)) | (exact k2 _ (by first | assumption | omega) (by first | assumption | omega) (by first | assumption | omega) (by first | assumption | omega)) | (exact k3 (by first | assumption | omega) (by first | assumption | omega) (by first | assumption | omega)) | (exact k4 (by first | assumption | omega) (by first | assumption | omega) (by first | assumption | omega)) | (exact k5 _ (by first | assumption | omega) (by first | assumption | omega) (by first | assumption | omega) (by first | assumption | omega) (by first | assumption | omega)) | (exact k6 (by first | assumption | omega) (by first | assumption | omega) (by first | assumption | omega)) | (exact k7 (by first | assumption | omega) (by first | assumption | omega) (by first | assumption | omega)) | (exact k8 (by first | assumption | omega) (by first | assumption | omega) (by first | assumption | omega)) | (exact k9 (by first | assumption | omega) (by first | assumption | omega)) | (exact k10 (by first | assumption | omega) (by first | assumption | omega)) | (exfalso; omega)
        ·
          intro y1 h52 h53
          refine hp_id (st := [.int y1]) ?_
          refine hp_go (pc' := 32) rfl rfl rfl ?_
          refine hp_ri rfl rfl ?_
          first | (exact k0 (by first | assumption | omega)) | (exact k1 (by first | assumption | omega) (by first | assumption | omega) (by first | assumption | omega)) | (exact k2 _ (by first | assumption | omega) (by first | assumption | omega) (by first | assumption | omega) (by first | assumption | omega)) | (exact k3 (by first | assumption | omega) (by first | assumption | omega) (by first | assumption | omega)) | (exact k4 (by first | assumption | omega) (by first | assumption | omega) (by first | assumption | omega)) | (exact k5 _ (by first | assumption | omega) (by first | assumption | omega) (by first | assumption | omega) (by first | assumption | omega) (by first | assumption | omega)) | (exact k6 (by first | assumption | omega) (by first | assumption | omega) (by first | assumption | omega)) | (exact k7 (by first | assumption | omega) (by first | assumption | omega) (by first | assumption | omega)) | (exact k8 (by first | assumption | omega) (by first | assumption | omega) (by first | assumption | omega)) | (exact k9 (by first | assumption | omega) (by first | assumption | omega)) | (exact k10 (by first | assumption | omega) (by first | assumption | omega)) | (exfalso; omega)
        ·
          intro h54
          refine hp_id (st := [.int (rI p 17 x.toInt.toNat)]) ?_
          refine hp_go (pc' := 32) rfl rfl rfl ?_
          refine hp_ri rfl rfl ?_
          first | (exact k0 (by first | assumption | omega)) | (exact k1 (by first | assumption | omega) (by first | assumption | omega) (by first | assumption | omega)) | (exact k2 _ (by first | assumption | omega) (by first | assumption | omega) (by first | assumption | omega) (by first | assumption | omega)) | (exact k3 (by first | assumption | omega) (by first | assumption | omega) (by first | assumption | omega)) | (exact k4 (by first | assumption | omega) (by first | assumption | omega) (by first | assumption | omega)) | (exact k5 _ (by first | assumption | omega) (by first | assumption | omega) (by first | assumption | omega) (by first | assumption | omega) (by first | assumption | omega)) | (exact k6 (by first | assumption | omega) (by first | assumption | omega) (by first | assumption | omega)) | (exact k7 (by first | assumption | omega) (by first | assumption | omega) (by first | assumption | omega)) | (exact k8 (by first | assumption | omega) (by first | assumption | omega) (by first | assumption | omega)) | (exact k9 (by first | assumption | omega) (by first | assumption | omega)) | (exact k10 (by first | assumption | omega) (by first | assumption | omega)) | (exfalso; omega)
        ·
          intro h55
          refine hp_id (st := [.int (((hSum (fun j => rI p 19 ((4 * x.toInt).toNat + j)) (rI p 17 x.toInt.toNat).toInt.toNat)))]) ?_
          refine hp_go (pc' := 32) rfl rfl rfl ?_
          refine hp_ri rfl rfl ?_
          first | (exact k0 (by first | assumption | omega)) | (exact k1 (by first | assumption | omega) (by first | assumption | omega) (by first | assumption | omega)) | (exact k2 _ (by first | assumption | omega) (by first | assumption | omega) (by first | assumption | omega) (by first | assumption | omega)) | (exact k3 (by first | assumption | omega) (by first | assumption | omega) (by first | assumption | omega)) | (exact k4 (by first | assumption | omega) (by first | assumption | omega) (by first | assumption | omega)) | (exact k5 _ (by first | assumption | omega) (by first | assumption | omega) (by first | assumption | omega) (by first | assumption | omega) (by first | assumption | omega)) | (exact k6 (by first | assumption | omega) (by first | assumption | omega) (by first | assumption | omega)) | (exact k7 (by first | assumption | omega) (by first | assumption | omega) (by first | assumption | omega)) | (exact k8 (by first | assumption | omega) (by first | assumption | omega) (by first | assumption | omega)) | (exact k9 (by first | assumption | omega) (by first | assumption | omega)) | (exact k10 (by first | assumption | omega) (by first | assumption | omega)) | (exfalso; omega)
        ·
          intro y2 h56 h57
          refine hp_id (st := [.int y2]) ?_
          refine hp_go (pc' := 32) rfl rfl rfl ?_
          refine hp_ri rfl rfl ?_
          first | (exact k0 (by first | assumption | omega)) | (exact k1 (by first | assumption | omega) (by first | assumption | omega) (by first | assumption | omega)) | (exact k2 _ (by first | assumption | omega) (by first | assumption | omega) (by first | assumption | omega) (by first | assumption | omega)) | (exact k3 (by first | assumption | omega) (by first | assumption | omega) (by first | assumption | omega)) | (exact k4 (by first | assumption | omega) (by first | assumption | omega) (by first | assumption | omega)) | (exact k5 _ (by first | assumption | omega) (by first | assumption | omega) (by first | assumption | omega) (by first | assumption | omega) (by first | assumption | omega)) | (exact k6 (by first | assumption | omega) (by first | assumption | omega) (by first | assumption | omega)) | (exact k7 (by first | assumption | omega) (by first | assumption | omega) (by first | assumption | omega)) | (exact k8 (by first | assumption | omega) (by first | assumption | omega) (by first | assumption | omega)) | (exact k9 (by first | assumption | omega) (by first | assumption | omega)) | (exact k10 (by first | assumption | omega) (by first | assumption | omega)) | (exfalso; omega)
      ·
        intro h58
        refine hp_id (st := [.int 0]) ?_
        refine hp_go (pc' := 30) rfl rfl rfl ?_
        refine hp_s (pc' := 32) (st' := [.int (-2000000000)]) rfl rfl rfl ?_
        refine hp_ri rfl rfl ?_
        first | (exact k0 (by first | assumption | omega)) | (exact k1 (by first | assumption | omega) (by first | assumption | omega) (by first | assumption | omega)) | (exact k2 _ (by first | assumption | omega) (by first | assumption | omega) (by first | assumption | omega) (by first | assumption | omega)) | (exact k3 (by first | assumption | omega) (by first | assumption | omega) (by first | assumption | omega)) | (exact k4 (by first | assumption | omega) (by first | assumption | omega) (by first | assumption | omega)) | (exact k5 _ (by first | assumption | omega) (by first | assumption | omega) (by first | assumption | omega) (by first | assumption | omega) (by first | assumption | omega)) | (exact k6 (by first | assumption | omega) (by first | assumption | omega) (by first | assumption | omega)) | (exact k7 (by first | assumption | omega) (by first | assumption | omega) (by first | assumption | omega)) | (exact k8 (by first | assumption | omega) (by first | assumption | omega) (by first | assumption | omega)) | (exact k9 (by first | assumption | omega) (by first | assumption | omega)) | (exact k10 (by first | assumption | omega) (by first | assumption | omega)) | (exfalso; omega)
theorem M_of {ro : List (List Int32)} {n d : Nat} {p : xH} {Q : Option Value → xH → Prop} {x : Int32} {xi : Int} {y : Int32} {yi : Int} (hx : x.toInt = xi) (hy : y.toInt = yi) (pre0 : 0 ≤ (rI p 66 6).toInt) (pre1 : (rI p 66 6).toInt ≤ 7) (pre2 : 0 ≤ (rI p 66 34).toInt) (pre3 : (rI p 66 34).toInt ≤ 10) (pre4 : 0 ≤ (rI p 72 xi.toNat).toInt) (pre5 : (rI p 72 xi.toNat).toInt ≤ 7) (k0 : (¬ (0 ≤ xi ∧ xi < (rI p 66 6).toInt ∧ 0 ≤ yi ∧ yi ≤ 6) ∧ ¬ (0 ≤ xi ∧ xi < (rI p 66 34).toInt ∧ 20 ≤ yi ∧ yi ≤ 22) ∧ ¬ (xi = 0 ∧ 10 ≤ yi ∧ yi ≤ 11)) → Q (some (.int (-2000000000))) p) (k1 : (0 ≤ xi) → (xi < (rI p 66 6).toInt) → (yi = 3) → Q (some (.int (rI p 71 xi.toNat))) p) (k2 : ∀ z : Int32, (0 ≤ xi) → (xi < (rI p 66 6).toInt) → (yi = 4) → (z = hSn (rI p 67 xi.toNat) (rI p 71 xi.toNat)) → Q (some (.int z)) p) (k3 : (0 ≤ xi) → (xi < (rI p 66 6).toInt) → (yi = 5) → Q (some (.int (rI p 72 xi.toNat))) p) (k4 : (0 ≤ xi) → (xi < (rI p 66 6).toInt) → (yi = 6) → Q (some (.int (hSum (fun j => rI p 74 ((4 * xi).toNat + j)) (rI p 72 xi.toNat).toInt.toNat))) p) (k5 : ∀ z : Int32, (0 ≤ xi) → (xi < (rI p 66 6).toInt) → (0 ≤ yi) → (yi ≤ 2) → (z = rI p 67 (7 * yi + xi).toNat) → Q (some (.int z)) p) (k6 : ∀ z : Int32, (0 ≤ xi) → (xi < (rI p 66 34).toInt) → (20 ≤ yi) → (yi ≤ 22) → (z = rI p 89 (3 * xi + yi - 20).toNat) → Q (some (.int z)) p) (k7 : ∀ z : Int32, (xi = 0) → (10 ≤ yi) → (yi ≤ 11) → (z = rI p 67 (11 + yi).toNat) → Q (some (.int z)) p) : hP ro n d (12, 3, 1, 1, k195) 0 (lv_args 0 [.ref 66, .int x, .int y]) [] p Q := by
  subst hx
  subst hy
  refine hp_id (ls := [(0, .ref 66), (1, .int x), (2, .int y)]) ?_
  refine hp_s (pc' := 1) (st' := [.int y]) rfl rfl rfl ?_
  refine hp_i2l (pc' := 2) rfl rfl ?_
  intro z1 hz1 ez1
  refine hp_s (pc' := 3) (st' := [.long 0, .long z1]) rfl rfl rfl ?_
  refine hp_s (pc' := 6) (st' := [.long 6, .long 0, .long z1]) rfl rfl rfl ?_
  refine hp_cs (kd := 0) (as := [.long z1, .long 0, .long 6]) (rest := []) (pc' := 9) rfl rfl rfl rfl rfl rfl rfl (fun d1 => ?_)
  refine s_within (vi := y.toInt) ez1 (ai := 0) (by decide) (bi := 6) (by decide) ?_ ?_
  ·
    intro h1 h2
    refine hp_id (st := [.int 1]) ?_
    refine hp_go (pc' := 12) rfl rfl rfl ?_
    refine hp_s (pc' := 13) (st' := [.ref 66]) rfl rfl rfl ?_
    refine hp_s (pc' := 14) (st' := [.int x, .ref 66]) rfl rfl rfl ?_
    refine hp_cv (r := 66) (o := 12) (kd := 1) (as := [.int x]) (rest := []) (pc' := 17) rfl rfl rfl rfl rfl rfl rfl rfl rfl (fun d2 => ?_)
    refine s_isPerson (xi := x.toInt) rfl (by first | assumption | omega) ?_ ?_
    ·
      intro h3 h4
      refine hp_id (st := [.int 1]) ?_
      refine hp_go (pc' := 20) rfl rfl rfl ?_
      refine hp_s (pc' := 21) (st' := [.ref 66]) rfl rfl rfl ?_
      refine hp_s (pc' := 22) (st' := [.int x, .ref 66]) rfl rfl rfl ?_
      refine hp_s (pc' := 23) (st' := [.int y, .int x, .ref 66]) rfl rfl rfl ?_
      refine hp_cv (r := 66) (o := 12) (kd := 1) (as := [.int x, .int y]) (rest := []) (pc' := 26) rfl rfl rfl rfl rfl rfl rfl rfl rfl (fun d3 => ?_)
      refine s_ofPersonM (xi := x.toInt) rfl (yi := y.toInt) rfl (by first | assumption | omega) (by first | assumption | omega) (by first | assumption | omega) (by first | assumption | omega) (by first | assumption | omega) (by first | assumption | omega) ?_ ?_ ?_ ?_ ?_
      ·
        intro h5
        refine hp_id (st := [.int (rI p 71 x.toInt.toNat)]) ?_
        refine hp_go (pc' := 31) rfl rfl rfl ?_
        refine hp_ri rfl rfl ?_
        first | (exact k0 (by first | assumption | omega | (congr 1; omega))) | (exact k1 (by first | assumption | omega | (congr 1; omega)) (by first | assumption | omega | (congr 1; omega)) (by first | assumption | omega | (congr 1; omega))) | (exact k2 _ (by first | assumption | omega | (congr 1; omega)) (by first | assumption | omega | (congr 1; omega)) (by first | assumption | omega | (congr 1; omega)) (by first | assumption | omega | (congr 1; omega))) | (exact k3 (by first | assumption | omega | (congr 1; omega)) (by first | assumption | omega | (congr 1; omega)) (by first | assumption | omega | (congr 1; omega))) | (exact k4 (by first | assumption | omega | (congr 1; omega)) (by first | assumption | omega | (congr 1; omega)) (by first | assumption | omega | (congr 1; omega))) | (exact k5 _ (by first | assumption | omega | (congr 1; omega)) (by first | assumption | omega | (congr 1; omega)) (by first | assumption | omega | (congr 1; omega)) (by first | assumption | omega | (congr 1; omega)) (by first | assumption | omega | (congr 1; omega))) | (exact k6 _ (by first | assumption | omega | (congr 1; omega)) (by first | assumption | omega | (congr 1; omega)) (by first | assumption | omega | (congr 1; omega)) (by first | assumption | omega | (congr 1; omega)) (by first | assumption | omega | (congr 1; omega))) | (exact k7 _ (by first | assumption | omega | (congr 1; omega)) (by first | assumption | omega | (congr 1; omega)) (by first | assumption | omega | (congr 1; omega)) (by first | assumption | omega | (congr 1; omega))) | (exfalso; omega)
      ·
        intro y1 h6 h7
        refine hp_id (st := [.int y1]) ?_
        refine hp_go (pc' := 31) rfl rfl rfl ?_
        refine hp_ri rfl rfl ?_
        first | (exact k0 (by first | assumption | omega | (congr 1; omega))) | (exact k1 (by first | assumption | omega | (congr 1; omega)) (by first | assumption | omega | (congr 1; omega)) (by first | assumption | omega | (congr 1; omega))) | (exact k2 _ (by first | assumption | omega | (congr 1; omega)) (by first | assumption | omega | (congr 1; omega)) (by first | assumption | omega | (congr 1; omega)) (by first | assumption | omega | (congr 1; omega))) | (exact k3 (by first | assumption | omega | (congr 1; omega)) (by first | assumption | omega | (congr 1; omega)) (by first | assumption | omega | (congr 1; omega))) | (exact k4 (by first | assumption | omega | (congr 1; omega)) (by first | assumption | omega | (congr 1; omega)) (by first | assumption | omega | (congr 1; omega))) | (exact k5 _ (by first | assumption | omega | (congr 1; omega)) (by first | assumption | omega | (congr 1; omega)) (by first | assumption | omega | (congr 1; omega)) (by first | assumption | omega | (congr 1; omega)) (by first | assumption | omega | (congr 1; omega))) | (exact k6 _ (by first | assumption | omega | (congr 1; omega)) (by first | assumption | omega | (congr 1; omega)) (by first | assumption | omega | (congr 1; omega)) (by first | assumption | omega | (congr 1; omega)) (by first | assumption | omega | (congr 1; omega))) | (exact k7 _ (by first | assumption | omega | (congr 1; omega)) (by first | assumption | omega | (congr 1; omega)) (by first | assumption | omega | (congr 1; omega)) (by first | assumption | omega | (congr 1; omega))) | (exfalso; omega)
      ·
        intro h8
        refine hp_id (st := [.int (rI p 72 x.toInt.toNat)]) ?_
        refine hp_go (pc' := 31) rfl rfl rfl ?_
        refine hp_ri rfl rfl ?_
        first | (exact k0 (by first | assumption | omega | (congr 1; omega))) | (exact k1 (by first | assumption | omega | (congr 1; omega)) (by first | assumption | omega | (congr 1; omega)) (by first | assumption | omega | (congr 1; omega))) | (exact k2 _ (by first | assumption | omega | (congr 1; omega)) (by first | assumption | omega | (congr 1; omega)) (by first | assumption | omega | (congr 1; omega)) (by first | assumption | omega | (congr 1; omega))) | (exact k3 (by first | assumption | omega | (congr 1; omega)) (by first | assumption | omega | (congr 1; omega)) (by first | assumption | omega | (congr 1; omega))) | (exact k4 (by first | assumption | omega | (congr 1; omega)) (by first | assumption | omega | (congr 1; omega)) (by first | assumption | omega | (congr 1; omega))) | (exact k5 _ (by first | assumption | omega | (congr 1; omega)) (by first | assumption | omega | (congr 1; omega)) (by first | assumption | omega | (congr 1; omega)) (by first | assumption | omega | (congr 1; omega)) (by first | assumption | omega | (congr 1; omega))) | (exact k6 _ (by first | assumption | omega | (congr 1; omega)) (by first | assumption | omega | (congr 1; omega)) (by first | assumption | omega | (congr 1; omega)) (by first | assumption | omega | (congr 1; omega)) (by first | assumption | omega | (congr 1; omega))) | (exact k7 _ (by first | assumption | omega | (congr 1; omega)) (by first | assumption | omega | (congr 1; omega)) (by first | assumption | omega | (congr 1; omega)) (by first | assumption | omega | (congr 1; omega))) | (exfalso; omega)
      ·
        intro h9
        refine hp_id (st := [.int (((hSum (fun j => rI p 74 ((4 * x.toInt).toNat + j)) (rI p 72 x.toInt.toNat).toInt.toNat)))]) ?_
        refine hp_go (pc' := 31) rfl rfl rfl ?_
        refine hp_ri rfl rfl ?_
        first | (exact k0 (by first | assumption | omega | (congr 1; omega))) | (exact k1 (by first | assumption | omega | (congr 1; omega)) (by first | assumption | omega | (congr 1; omega)) (by first | assumption | omega | (congr 1; omega))) | (exact k2 _ (by first | assumption | omega | (congr 1; omega)) (by first | assumption | omega | (congr 1; omega)) (by first | assumption | omega | (congr 1; omega)) (by first | assumption | omega | (congr 1; omega))) | (exact k3 (by first | assumption | omega | (congr 1; omega)) (by first | assumption | omega | (congr 1; omega)) (by first | assumption | omega | (congr 1; omega))) | (exact k4 (by first | assumption | omega | (congr 1; omega)) (by first | assumption | omega | (congr 1; omega)) (by first | assumption | omega | (congr 1; omega))) | (exact k5 _ (by first | assumption | omega | (congr 1; omega)) (by first | assumption | omega | (congr 1; omega)) (by first | assumption | omega | (congr 1; omega)) (by first | assumption | omega | (congr 1; omega)) (by first | assumption | omega | (congr 1; omega))) | (exact k6 _ (by first | assumption | omega | (congr 1; omega)) (by first | assumption | omega | (congr 1; omega)) (by first | assumption | omega | (congr 1; omega)) (by first | assumption | omega | (congr 1; omega)) (by first | assumption | omega | (congr 1; omega))) | (exact k7 _ (by first | assumption | omega | (congr 1; omega)) (by first | assumption | omega | (congr 1; omega)) (by first | assumption | omega | (congr 1; omega)) (by first | assumption | omega | (congr 1; omega))) | (exfalso; omega)
      ·
        intro y2 h10 h11
        refine hp_id (st := [.int y2]) ?_
        refine hp_go (pc' := 31) rfl rfl rfl ?_
        refine hp_ri rfl rfl ?_
        first | (exact k0 (by first | assumption | omega | (congr 1; omega))) | (exact k1 (by first | assumption | omega | (congr 1; omega)) (by first | assumption | omega | (congr 1; omega)) (by first | assumption | omega | (congr 1; omega))) | (exact k2 _ (by first | assumption | omega | (congr 1; omega)) (by first | assumption | omega | (congr 1; omega)) (by first | assumption | omega | (congr 1; omega)) (by first | assumption | omega | (congr 1; omega))) | (exact k3 (by first | assumption | omega | (congr 1; omega)) (by first | assumption | omega | (congr 1; omega)) (by first | assumption | omega | (congr 1; omega))) | (exact k4 (by first | assumption | omega | (congr 1; omega)) (by first | assumption | omega | (congr 1; omega)) (by first | assumption | omega | (congr 1; omega))) | (exact k5 _ (by first | assumption | omega | (congr 1; omega)) (by first | assumption | omega | (congr 1; omega)) (by first | assumption | omega | (congr 1; omega)) (by first | assumption | omega | (congr 1; omega)) (by first | assumption | omega | (congr 1; omega))) | (exact k6 _ (by first | assumption | omega | (congr 1; omega)) (by first | assumption | omega | (congr 1; omega)) (by first | assumption | omega | (congr 1; omega)) (by first | assumption | omega | (congr 1; omega)) (by first | assumption | omega | (congr 1; omega))) | (exact k7 _ (by first | assumption | omega | (congr 1; omega)) (by first | assumption | omega | (congr 1; omega)) (by first | assumption | omega | (congr 1; omega)) (by first | assumption | omega | (congr 1; omega))) | (exfalso; omega)
    ·
      intro h12
      refine hp_id (st := [.int 0]) ?_
      refine hp_go (pc' := 29) rfl rfl rfl ?_
      refine hp_s (pc' := 31) (st' := [.int (-2000000000)]) rfl rfl rfl ?_
      refine hp_ri rfl rfl ?_
      first | (exact k0 (by first | assumption | omega | (congr 1; omega))) | (exact k1 (by first | assumption | omega | (congr 1; omega)) (by first | assumption | omega | (congr 1; omega)) (by first | assumption | omega | (congr 1; omega))) | (exact k2 _ (by first | assumption | omega | (congr 1; omega)) (by first | assumption | omega | (congr 1; omega)) (by first | assumption | omega | (congr 1; omega)) (by first | assumption | omega | (congr 1; omega))) | (exact k3 (by first | assumption | omega | (congr 1; omega)) (by first | assumption | omega | (congr 1; omega)) (by first | assumption | omega | (congr 1; omega))) | (exact k4 (by first | assumption | omega | (congr 1; omega)) (by first | assumption | omega | (congr 1; omega)) (by first | assumption | omega | (congr 1; omega))) | (exact k5 _ (by first | assumption | omega | (congr 1; omega)) (by first | assumption | omega | (congr 1; omega)) (by first | assumption | omega | (congr 1; omega)) (by first | assumption | omega | (congr 1; omega)) (by first | assumption | omega | (congr 1; omega))) | (exact k6 _ (by first | assumption | omega | (congr 1; omega)) (by first | assumption | omega | (congr 1; omega)) (by first | assumption | omega | (congr 1; omega)) (by first | assumption | omega | (congr 1; omega)) (by first | assumption | omega | (congr 1; omega))) | (exact k7 _ (by first | assumption | omega | (congr 1; omega)) (by first | assumption | omega | (congr 1; omega)) (by first | assumption | omega | (congr 1; omega)) (by first | assumption | omega | (congr 1; omega))) | (exfalso; omega)
  ·
    intro h13
    refine hp_id (st := [.int 0]) ?_
    refine hp_go (pc' := 32) rfl rfl rfl ?_
    refine hp_s (pc' := 33) (st' := [.int y]) rfl rfl rfl ?_
    refine hp_i2l (pc' := 34) rfl rfl ?_
    intro z2 hz2 ez2
    refine hp_s (pc' := 37) (st' := [.long 10, .long z2]) rfl rfl rfl ?_
    refine hp_s (pc' := 40) (st' := [.long 11, .long 10, .long z2]) rfl rfl rfl ?_
    refine hp_cs (kd := 0) (as := [.long z2, .long 10, .long 11]) (rest := []) (pc' := 43) rfl rfl rfl rfl rfl rfl rfl (fun d4 => ?_)
    refine s_within (vi := y.toInt) ez2 (ai := 10) (by decide) (bi := 11) (by decide) ?_ ?_
    ·
      intro h14 h15
      refine hp_id (st := [.int 1]) ?_
      refine hp_go (pc' := 46) rfl rfl rfl ?_
      refine hp_s (pc' := 47) (st' := [.int x]) rfl rfl rfl ?_
      refine hp_if (pc' := 50) (t := 65) (a := x.toInt) rfl rfl rfl rfl (fun (h16 : x.toInt ≠ 0) => ?_) (fun (h17 : ¬ (x.toInt ≠ 0)) => ?_)
      ·
        refine hp_s (pc' := 67) (st' := [.int (-2000000000)]) rfl rfl rfl ?_
        refine hp_ri rfl rfl ?_
        first | (exact k0 (by first | assumption | omega | (congr 1; omega))) | (exact k1 (by first | assumption | omega | (congr 1; omega)) (by first | assumption | omega | (congr 1; omega)) (by first | assumption | omega | (congr 1; omega))) | (exact k2 _ (by first | assumption | omega | (congr 1; omega)) (by first | assumption | omega | (congr 1; omega)) (by first | assumption | omega | (congr 1; omega)) (by first | assumption | omega | (congr 1; omega))) | (exact k3 (by first | assumption | omega | (congr 1; omega)) (by first | assumption | omega | (congr 1; omega)) (by first | assumption | omega | (congr 1; omega))) | (exact k4 (by first | assumption | omega | (congr 1; omega)) (by first | assumption | omega | (congr 1; omega)) (by first | assumption | omega | (congr 1; omega))) | (exact k5 _ (by first | assumption | omega | (congr 1; omega)) (by first | assumption | omega | (congr 1; omega)) (by first | assumption | omega | (congr 1; omega)) (by first | assumption | omega | (congr 1; omega)) (by first | assumption | omega | (congr 1; omega))) | (exact k6 _ (by first | assumption | omega | (congr 1; omega)) (by first | assumption | omega | (congr 1; omega)) (by first | assumption | omega | (congr 1; omega)) (by first | assumption | omega | (congr 1; omega)) (by first | assumption | omega | (congr 1; omega))) | (exact k7 _ (by first | assumption | omega | (congr 1; omega)) (by first | assumption | omega | (congr 1; omega)) (by first | assumption | omega | (congr 1; omega)) (by first | assumption | omega | (congr 1; omega))) | (exfalso; omega)
      ·
        refine hp_s (pc' := 51) (st' := [.ref 66]) rfl rfl rfl ?_
        refine hp_getr (k := 0) (w := .ref 67) (pc' := 54) rfl rfl rfl rfl rfl ?_
        refine hp_s (pc' := 56) (st' := [.int 21, .ref 67]) rfl rfl rfl ?_
        refine hp_s (pc' := 57) (st' := [.int y, .int 21, .ref 67]) rfl rfl rfl ?_
        refine hp_z (pc' := 58) (e := 21 + y) (st' := [.ref 67]) rfl rfl rfl ?_
        intro z3 hz3
        have ez3 := i_add hz3 (show (21 : Int32).toInt = 21 from by decide) (show y.toInt = y.toInt from rfl)
        refine hp_s (pc' := 60) (st' := [.int 10, .int z3, .ref 67]) rfl rfl rfl ?_
        refine hp_z (pc' := 61) (e := z3 - 10) (st' := [.ref 67]) rfl rfl rfl ?_
        intro z4 hz4
        have ez4 := i_sub hz4 (show z3.toInt = z3.toInt from rfl) (show (10 : Int32).toInt = 10 from by decide)
        refine hp_ld (t := 100) (v := (rI p 67 z4.toInt.toNat)) rfl (.inl rfl) rfl rfl rfl ?_
        intro (g1a : 0 ≤ z4.toInt) (g1b : z4.toInt < 23)
        refine hp_go (pc' := 67) rfl rfl rfl ?_
        refine hp_ri rfl rfl ?_
        first | (exact k0 (by first | assumption | omega | (congr 1; omega))) | (exact k1 (by first | assumption | omega | (congr 1; omega)) (by first | assumption | omega | (congr 1; omega)) (by first | assumption | omega | (congr 1; omega))) | (exact k2 _ (by first | assumption | omega | (congr 1; omega)) (by first | assumption | omega | (congr 1; omega)) (by first | assumption | omega | (congr 1; omega)) (by first | assumption | omega | (congr 1; omega))) | (exact k3 (by first | assumption | omega | (congr 1; omega)) (by first | assumption | omega | (congr 1; omega)) (by first | assumption | omega | (congr 1; omega))) | (exact k4 (by first | assumption | omega | (congr 1; omega)) (by first | assumption | omega | (congr 1; omega)) (by first | assumption | omega | (congr 1; omega))) | (exact k5 _ (by first | assumption | omega | (congr 1; omega)) (by first | assumption | omega | (congr 1; omega)) (by first | assumption | omega | (congr 1; omega)) (by first | assumption | omega | (congr 1; omega)) (by first | assumption | omega | (congr 1; omega))) | (exact k6 _ (by first | assumption | omega | (congr 1; omega)) (by first | assumption | omega | (congr 1; omega)) (by first | assumption | omega | (congr 1; omega)) (by first | assumption | omega | (congr 1; omega)) (by first | assumption | omega | (congr 1; omega))) | (exact k7 _ (by first | assumption | omega | (congr 1; omega)) (by first | assumption | omega | (congr 1; omega)) (by first | assumption | omega | (congr 1; omega)) (by first | assumption | omega | (congr 1; omega))) | (exfalso; omega)
    ·
      intro h18
      refine hp_id (st := [.int 0]) ?_
      refine hp_go (pc' := 68) rfl rfl rfl ?_
      refine hp_s (pc' := 69) (st' := [.int y]) rfl rfl rfl ?_
      refine hp_i2l (pc' := 70) rfl rfl ?_
      intro z5 hz5 ez5
      refine hp_s (pc' := 73) (st' := [.long 20, .long z5]) rfl rfl rfl ?_
      refine hp_s (pc' := 76) (st' := [.long 22, .long 20, .long z5]) rfl rfl rfl ?_
      refine hp_cs (kd := 0) (as := [.long z5, .long 20, .long 22]) (rest := []) (pc' := 79) rfl rfl rfl rfl rfl rfl rfl (fun d5 => ?_)
      refine s_within (vi := y.toInt) ez5 (ai := 20) (by decide) (bi := 22) (by decide) ?_ ?_
      ·
        intro h19 h20
        refine hp_id (st := [.int 1]) ?_
        refine hp_go (pc' := 82) rfl rfl rfl ?_
        refine hp_s (pc' := 83) (st' := [.int x]) rfl rfl rfl ?_
        refine hp_i2l (pc' := 84) rfl rfl ?_
        intro z6 hz6 ez6
        refine hp_s (pc' := 85) (st' := [.long 0, .long z6]) rfl rfl rfl ?_
        refine hp_s (pc' := 86) (st' := [.ref 66, .long 0, .long z6]) rfl rfl rfl ?_
        refine hp_get (k := 34) (pc' := 89) (v := (rI p 66 34)) rfl rfl rfl rfl rfl rfl ?_
        refine hp_s (pc' := 90) (st' := [.int 1, .int (rI p 66 34), .long 0, .long z6]) rfl rfl rfl ?_
        refine hp_z (pc' := 91) (e := (rI p 66 34) - 1) (st' := [.long 0, .long z6]) rfl rfl rfl ?_
        intro z7 hz7
        have ez7 := i_sub hz7 (show (rI p 66 34).toInt = (rI p 66 34).toInt from rfl) (show (1 : Int32).toInt = 1 from by decide)
        refine hp_i2l (pc' := 92) rfl rfl ?_
        intro z8 hz8 ez8
        refine hp_cs (kd := 0) (as := [.long z6, .long 0, .long z8]) (rest := []) (pc' := 95) rfl rfl rfl rfl rfl rfl rfl (fun d6 => ?_)
        refine s_within (vi := x.toInt) ez6 (ai := 0) (by decide) (bi := z7.toInt) ez8 ?_ ?_
        ·
          intro h21 h22
          refine hp_id (st := [.int 1]) ?_
          refine hp_go (pc' := 98) rfl rfl rfl ?_
          refine hp_s (pc' := 99) (st' := [.ref 66]) rfl rfl rfl ?_
          refine hp_getr (k := 35) (w := .ref 89) (pc' := 102) rfl rfl rfl rfl rfl ?_
          refine hp_s (pc' := 103) (st' := [.int 3, .ref 89]) rfl rfl rfl ?_
          refine hp_s (pc' := 104) (st' := [.int x, .int 3, .ref 89]) rfl rfl rfl ?_
          refine hp_z (pc' := 105) (e := 3 * x) (st' := [.ref 89]) rfl rfl rfl ?_
          intro z9 hz9
          have ez9 := i_mul hz9 (show (3 : Int32).toInt = 3 from by decide) (show x.toInt = x.toInt from rfl)
          refine hp_s (pc' := 106) (st' := [.int y, .int z9, .ref 89]) rfl rfl rfl ?_
          refine hp_z (pc' := 107) (e := z9 + y) (st' := [.ref 89]) rfl rfl rfl ?_
          intro z10 hz10
          have ez10 := i_add hz10 (show z9.toInt = z9.toInt from rfl) (show y.toInt = y.toInt from rfl)
          refine hp_s (pc' := 109) (st' := [.int 20, .int z10, .ref 89]) rfl rfl rfl ?_
          refine hp_z (pc' := 110) (e := z10 - 20) (st' := [.ref 89]) rfl rfl rfl ?_
          intro z11 hz11
          have ez11 := i_sub hz11 (show z10.toInt = z10.toInt from rfl) (show (20 : Int32).toInt = 20 from by decide)
          refine hp_ld (t := 100) (v := (rI p 89 z11.toInt.toNat)) rfl (.inl rfl) rfl rfl rfl ?_
          intro (g2a : 0 ≤ z11.toInt) (g2b : z11.toInt < 30)
          refine hp_go (pc' := 116) rfl rfl rfl ?_
          refine hp_ri rfl rfl ?_
          first | (exact k0 (by first | assumption | omega | (congr 1; omega))) | (exact k1 (by first | assumption | omega | (congr 1; omega)) (by first | assumption | omega | (congr 1; omega)) (by first | assumption | omega | (congr 1; omega))) | (exact k2 _ (by first | assumption | omega | (congr 1; omega)) (by first | assumption | omega | (congr 1; omega)) (by first | assumption | omega | (congr 1; omega)) (by first | assumption | omega | (congr 1; omega))) | (exact k3 (by first | assumption | omega | (congr 1; omega)) (by first | assumption | omega | (congr 1; omega)) (by first | assumption | omega | (congr 1; omega))) | (exact k4 (by first | assumption | omega | (congr 1; omega)) (by first | assumption | omega | (congr 1; omega)) (by first | assumption | omega | (congr 1; omega))) | (exact k5 _ (by first | assumption | omega | (congr 1; omega)) (by first | assumption | omega | (congr 1; omega)) (by first | assumption | omega | (congr 1; omega)) (by first | assumption | omega | (congr 1; omega)) (by first | assumption | omega | (congr 1; omega))) | (exact k6 _ (by first | assumption | omega | (congr 1; omega)) (by first | assumption | omega | (congr 1; omega)) (by first | assumption | omega | (congr 1; omega)) (by first | assumption | omega | (congr 1; omega)) (by first | assumption | omega | (congr 1; omega))) | (exact k7 _ (by first | assumption | omega | (congr 1; omega)) (by first | assumption | omega | (congr 1; omega)) (by first | assumption | omega | (congr 1; omega)) (by first | assumption | omega | (congr 1; omega))) | (exfalso; omega)
        ·
          intro h23
          refine hp_id (st := [.int 0]) ?_
          refine hp_go (pc' := 114) rfl rfl rfl ?_
          refine hp_s (pc' := 116) (st' := [.int (-2000000000)]) rfl rfl rfl ?_
          refine hp_ri rfl rfl ?_
          first | (exact k0 (by first | assumption | omega | (congr 1; omega))) | (exact k1 (by first | assumption | omega | (congr 1; omega)) (by first | assumption | omega | (congr 1; omega)) (by first | assumption | omega | (congr 1; omega))) | (exact k2 _ (by first | assumption | omega | (congr 1; omega)) (by first | assumption | omega | (congr 1; omega)) (by first | assumption | omega | (congr 1; omega)) (by first | assumption | omega | (congr 1; omega))) | (exact k3 (by first | assumption | omega | (congr 1; omega)) (by first | assumption | omega | (congr 1; omega)) (by first | assumption | omega | (congr 1; omega))) | (exact k4 (by first | assumption | omega | (congr 1; omega)) (by first | assumption | omega | (congr 1; omega)) (by first | assumption | omega | (congr 1; omega))) | (exact k5 _ (by first | assumption | omega | (congr 1; omega)) (by first | assumption | omega | (congr 1; omega)) (by first | assumption | omega | (congr 1; omega)) (by first | assumption | omega | (congr 1; omega)) (by first | assumption | omega | (congr 1; omega))) | (exact k6 _ (by first | assumption | omega | (congr 1; omega)) (by first | assumption | omega | (congr 1; omega)) (by first | assumption | omega | (congr 1; omega)) (by first | assumption | omega | (congr 1; omega)) (by first | assumption | omega | (congr 1; omega))) | (exact k7 _ (by first | assumption | omega | (congr 1; omega)) (by first | assumption | omega | (congr 1; omega)) (by first | assumption | omega | (congr 1; omega)) (by first | assumption | omega | (congr 1; omega))) | (exfalso; omega)
      ·
        intro h24
        refine hp_id (st := [.int 0]) ?_
        refine hp_go (pc' := 114) rfl rfl rfl ?_
        refine hp_s (pc' := 116) (st' := [.int (-2000000000)]) rfl rfl rfl ?_
        refine hp_ri rfl rfl ?_
        first | (exact k0 (by first | assumption | omega | (congr 1; omega))) | (exact k1 (by first | assumption | omega | (congr 1; omega)) (by first | assumption | omega | (congr 1; omega)) (by first | assumption | omega | (congr 1; omega))) | (exact k2 _ (by first | assumption | omega | (congr 1; omega)) (by first | assumption | omega | (congr 1; omega)) (by first | assumption | omega | (congr 1; omega)) (by first | assumption | omega | (congr 1; omega))) | (exact k3 (by first | assumption | omega | (congr 1; omega)) (by first | assumption | omega | (congr 1; omega)) (by first | assumption | omega | (congr 1; omega))) | (exact k4 (by first | assumption | omega | (congr 1; omega)) (by first | assumption | omega | (congr 1; omega)) (by first | assumption | omega | (congr 1; omega))) | (exact k5 _ (by first | assumption | omega | (congr 1; omega)) (by first | assumption | omega | (congr 1; omega)) (by first | assumption | omega | (congr 1; omega)) (by first | assumption | omega | (congr 1; omega)) (by first | assumption | omega | (congr 1; omega))) | (exact k6 _ (by first | assumption | omega | (congr 1; omega)) (by first | assumption | omega | (congr 1; omega)) (by first | assumption | omega | (congr 1; omega)) (by first | assumption | omega | (congr 1; omega)) (by first | assumption | omega | (congr 1; omega))) | (exact k7 _ (by first | assumption | omega | (congr 1; omega)) (by first | assumption | omega | (congr 1; omega)) (by first | assumption | omega | (congr 1; omega)) (by first | assumption | omega | (congr 1; omega))) | (exfalso; omega)
