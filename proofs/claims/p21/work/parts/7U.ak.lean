/-! contracts of methods, walked -/
theorem X_alike {ro : List (List Int32)} {n d : Nat} {p : xH} {Q : Option Value → xH → Prop} (lo : Option (List yN)) {x : Int32} {xi : Int} (hx : x.toInt = xi) (pre0 : lXo p lo) (pre1 : ∀ j, -1 ≤ (rI p 2 j).toInt) (pre2 : 0 ≤ (rI p 13 7).toInt) (pre3 : (rI p 13 7).toInt ≤ 7) (pre4 : 0 ≤ (rI p 13 9).toInt) (pre5 : (rI p 13 9).toInt ≤ 63) (k0 : (¬ (0 ≤ xi ∧ xi / 10 < (rI p 13 7).toInt ∧ xi % 10 < (rI p 13 7).toInt ∧ xi / 10 ≠ xi % 10)) → Q (some (.int (-1))) p) (k1 : ∀ p2 : xH, (hNt T_h p p2) → (0 ≤ xi) → (xi / 10 < (rI p 13 7).toInt) → (xi % 10 < (rI p 13 7).toInt) → (xi / 10 ≠ xi % 10) → (Xal p lo 0 (xi / 10).toNat (xi % 10).toNat) → Q (some (.int (1))) p2) (k2 : ∀ p2 : xH, (hNt T_h p p2) → (0 ≤ xi) → (xi / 10 < (rI p 13 7).toInt) → (xi % 10 < (rI p 13 7).toInt) → (xi / 10 ≠ xi % 10) → (¬ Xal p lo 0 (xi / 10).toNat (xi % 10).toNat) → Q (some (.int (0))) p2) : hP ro n d (11, 2, 1, 1, k138) 0 (lv_args 0 [.ref 0, .int x]) [] p Q := by
  subst hx
  refine hp_id (ls := [(0, .ref 0), (1, .int x)]) ?_
  refine hp_s (pc' := 1) (st' := [.ref 0]) rfl rfl rfl ?_
  refine hp_getr (k := 4) (w := .ref 13) (pc' := 4) rfl rfl rfl rfl rfl ?_
  refine hp_s (pc' := 5) (st' := [.int x, .ref 13]) rfl rfl rfl ?_
  refine hp_cv (r := 13) (o := 1) (kd := 1) (as := [.int x]) (rest := []) (pc' := 8) rfl rfl rfl rfl rfl rfl rfl rfl rfl (fun d1 => ?_)
  refine s_hasTwo (xi := x.toInt) rfl ?_ ?_
  ·
    intro h1 h2 h3 h4
    refine hp_id (st := [.int 1]) ?_
    refine hp_go (pc' := 13) rfl rfl rfl ?_
    refine hp_s (pc' := 14) (st' := [.ref 0]) rfl rfl rfl ?_
    refine hp_getr (k := 7) (w := .ref 32) (pc' := 17) rfl rfl rfl rfl rfl ?_
    refine hp_s (pc' := 18) (st' := [.int x, .ref 32]) rfl rfl rfl ?_
    refine hp_s (pc' := 20) (st' := [.int 10, .int x, .ref 32]) rfl rfl rfl ?_
    refine hp_z (pc' := 21) (e := x / 10) (st' := [.ref 32]) rfl rfl rfl ?_
    intro z1 hz1
    have ez1 := i_div hz1 (show x.toInt = x.toInt from rfl) (show (10 : Int32).toInt = 10 from by decide) (by decide)
    refine hp_s (pc' := 22) (st' := [.int x, .int z1, .ref 32]) rfl rfl rfl ?_
    refine hp_s (pc' := 24) (st' := [.int 10, .int x, .int z1, .ref 32]) rfl rfl rfl ?_
    refine hp_z (pc' := 25) (e := x - x / 10 * 10) (st' := [.int z1, .ref 32]) rfl rfl rfl ?_
    intro z2 hz2
    have ez2 := i_rem hz2 (show x.toInt = x.toInt from rfl) (show (10 : Int32).toInt = 10 from by decide) (by decide)
    refine hp_s (pc' := 26) (st' := [.int 0, .int z2, .int z1, .ref 32]) rfl rfl rfl ?_
    refine hp_cv (r := 32) (o := 4) (kd := 1) (as := [.int z1, .int z2, .int 0]) (rest := []) (pc' := 29) rfl rfl rfl rfl rfl rfl rfl rfl rfl (fun d2 => ?_)
    refine s_isAfter lo (xi := (x.toInt / 10)) (by omega) (yi := (x.toInt % 10)) (by omega) (ki := 0) (by decide) (by first | assumption | omega) (by first | assumption | omega) (by first | assumption | omega) (by first | assumption | omega) (by first | assumption | omega) (by first | assumption | omega) ?_ ?_
    ·
      intro p1 h5 h6
      refine hp_id (st := [.int 1]) ?_
      refine hp_go (pc' := 32) rfl rfl rfl ?_
      refine hp_s (pc' := 33) (st' := [.int 1]) rfl rfl rfl ?_
      refine hp_go (pc' := 37) rfl rfl rfl ?_
      refine hp_ri rfl rfl ?_
      first | (exact k1 _ (by first | assumption | omega) (by first | assumption | omega) (by first | assumption | omega) (by first | assumption | omega) (by first | assumption | omega) (by first | assumption | omega)) | (exfalso; omega)
    ·
      intro p2 h7 h8
      refine hp_id (st := [.int 0]) ?_
      refine hp_go (pc' := 36) rfl rfl rfl ?_
      refine hp_s (pc' := 37) (st' := [.int 0]) rfl rfl rfl ?_
      refine hp_ri rfl rfl ?_
      first | (exact k2 _ (by first | assumption | omega) (by first | assumption | omega) (by first | assumption | omega) (by first | assumption | omega) (by first | assumption | omega) (by first | assumption | omega)) | (exfalso; omega)
  ·
    intro h9
    refine hp_id (st := [.int 0]) ?_
    refine hp_go (pc' := 11) rfl rfl rfl ?_
    refine hp_s (pc' := 12) (st' := [.int (-1)]) rfl rfl rfl ?_
    refine hp_ri rfl rfl ?_
    first | (exact k0 (by first | assumption | omega)) | (exfalso; omega)
theorem M_alike {ro : List (List Int32)} {n d : Nat} {p : xH} {Q : Option Value → xH → Prop} (lo : Option (List yN)) {x : Int32} {xi : Int} (hx : x.toInt = xi) (pre0 : lMo p lo) (pre1 : ∀ j, 0 ≤ (rI p 67 j).toInt ∧ (rI p 67 j).toInt < 64) (pre2 : ∀ j, -1 ≤ (rI p 71 j).toInt ∧ (rI p 71 j).toInt < 6) (pre3 : 0 ≤ (rI p 66 6).toInt) (pre4 : (rI p 66 6).toInt ≤ 7) (k0 : (¬ (0 ≤ xi ∧ xi / 10 < (rI p 66 6).toInt ∧ xi % 10 < (rI p 66 6).toInt ∧ xi / 10 ≠ xi % 10)) → Q (some (.int (-1))) p) (k1 : ∀ p2 : xH, (hNt T_aa p p2) → (0 ≤ xi) → (xi / 10 < (rI p 66 6).toInt) → (xi % 10 < (rI p 66 6).toInt) → (xi / 10 ≠ xi % 10) → (Mal p lo (xi / 10).toNat (xi % 10).toNat) → Q (some (.int (1))) p2) (k2 : ∀ p2 : xH, (hNt T_aa p p2) → (0 ≤ xi) → (xi / 10 < (rI p 66 6).toInt) → (xi % 10 < (rI p 66 6).toInt) → (xi / 10 ≠ xi % 10) → (¬ Mal p lo (xi / 10).toNat (xi % 10).toNat) → Q (some (.int (0))) p2) : hP ro n d (12, 2, 1, 1, k212) 0 (lv_args 0 [.ref 66, .int x]) [] p Q := by
  subst hx
  refine hp_id (ls := [(0, .ref 66), (1, .int x)]) ?_
  refine hp_s (pc' := 1) (st' := [.ref 66]) rfl rfl rfl ?_
  refine hp_s (pc' := 2) (st' := [.int x, .ref 66]) rfl rfl rfl ?_
  refine hp_cv (r := 66) (o := 12) (kd := 1) (as := [.int x]) (rest := []) (pc' := 5) rfl rfl rfl rfl rfl rfl rfl rfl rfl (fun d1 => ?_)
  refine s_isPq (xi := x.toInt) rfl (by first | assumption | omega) ?_ ?_
  ·
    intro h1 h2 h3 h4
    refine hp_id (st := [.int 1]) ?_
    refine hp_go (pc' := 8) rfl rfl rfl ?_
    refine hp_s (pc' := 9) (st' := [.ref 66]) rfl rfl rfl ?_
    refine hp_s (pc' := 10) (st' := [.int x, .ref 66]) rfl rfl rfl ?_
    refine hp_s (pc' := 12) (st' := [.int 10, .int x, .ref 66]) rfl rfl rfl ?_
    refine hp_z (pc' := 13) (e := x / 10) (st' := [.ref 66]) rfl rfl rfl ?_
    intro z1 hz1
    have ez1 := i_div hz1 (show x.toInt = x.toInt from rfl) (show (10 : Int32).toInt = 10 from by decide) (by decide)
    refine hp_s (pc' := 14) (st' := [.int x, .int z1, .ref 66]) rfl rfl rfl ?_
    refine hp_s (pc' := 16) (st' := [.int 10, .int x, .int z1, .ref 66]) rfl rfl rfl ?_
    refine hp_z (pc' := 17) (e := x - x / 10 * 10) (st' := [.int z1, .ref 66]) rfl rfl rfl ?_
    intro z2 hz2
    have ez2 := i_rem hz2 (show x.toInt = x.toInt from rfl) (show (10 : Int32).toInt = 10 from by decide) (by decide)
    refine hp_cv (r := 66) (o := 12) (kd := 1) (as := [.int z1, .int z2]) (rest := []) (pc' := 20) rfl rfl rfl rfl rfl rfl rfl rfl rfl (fun d2 => ?_)
    refine s_isAlike lo (xi := (x.toInt / 10)) (by omega) (yi := (x.toInt % 10)) (by omega) (by first | assumption | omega) (by first | assumption | omega) (by first | assumption | omega) ?_ ?_
    ·
      intro p1 h5 h6
      refine hp_id (st := [.int 1]) ?_
      refine hp_go (pc' := 23) rfl rfl rfl ?_
      refine hp_s (pc' := 24) (st' := [.int 1]) rfl rfl rfl ?_
      refine hp_go (pc' := 32) rfl rfl rfl ?_
      refine hp_ri rfl rfl ?_
      first | (exact k1 _ (by first | assumption | omega) (by first | assumption | omega) (by first | assumption | omega) (by first | assumption | omega) (by first | assumption | omega) (by first | assumption | omega)) | (exfalso; omega)
    ·
      intro p2 h7 h8
      refine hp_id (st := [.int 0]) ?_
      refine hp_go (pc' := 27) rfl rfl rfl ?_
      refine hp_s (pc' := 28) (st' := [.int 0]) rfl rfl rfl ?_
      refine hp_go (pc' := 32) rfl rfl rfl ?_
      refine hp_ri rfl rfl ?_
      first | (exact k2 _ (by first | assumption | omega) (by first | assumption | omega) (by first | assumption | omega) (by first | assumption | omega) (by first | assumption | omega) (by first | assumption | omega)) | (exfalso; omega)
  ·
    intro h9
    refine hp_id (st := [.int 0]) ?_
    refine hp_go (pc' := 31) rfl rfl rfl ?_
    refine hp_s (pc' := 32) (st' := [.int (-1)]) rfl rfl rfl ?_
    refine hp_ri rfl rfl ?_
    first | (exact k0 (by first | assumption | omega)) | (exfalso; omega)
