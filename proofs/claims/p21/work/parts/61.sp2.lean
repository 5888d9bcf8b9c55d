/-! contracts of methods, walked -/
/-- what is put in keeps its lowest bits -/
def hSort (s : Int) (v : Int64) : Int64 := if s = 0 then v.toInt32.toInt8.toInt32.toInt64 else if s = 1 then v.toInt32.toInt16.toInt32.toInt64 else if s = 2 then v.toInt32.toInt64 else if s = 4 then (if v.toInt = 0 then 0 else 1) else v
theorem s_isSort {ro : List (List Int32)} {n d : Nat} {p : xH} {Q : Option Value → xH → Prop} {x : Int32} {xi : Int} (hx : x.toInt = xi)  (k0 : (0 ≤ xi) → (xi ≤ 4) → Q (some (.int (1))) p) (k1 : (¬ (0 ≤ xi ∧ xi ≤ 4)) → Q (some (.int (0))) p) : hP ro n d (6, 2, 1, 2, k67) 0 (lv_args 0 [.ref 60, .int x]) [] p Q := by
  subst hx
  refine hp_id (ls := [(0, .ref 60), (1, .int x)]) ?_
  refine hp_s (pc' := 1) (st' := [.int x]) rfl rfl rfl ?_
  refine hp_if (pc' := 4) (t := 13) (a := x.toInt) rfl rfl rfl rfl (fun (h1 : x.toInt < 0) => ?_) (fun (h2 : ¬ (x.toInt < 0)) => ?_)
  ·
    refine hp_s (pc' := 14) (st' := [.int 0]) rfl rfl rfl ?_
    refine hp_rb rfl rfl (fun _ => ?_)
    first | (exact k1 (by first | assumption | omega)) | (exfalso; omega)
  ·
    refine hp_s (pc' := 5) (st' := [.int x]) rfl rfl rfl ?_
    refine hp_s (pc' := 6) (st' := [.int 4, .int x]) rfl rfl rfl ?_
    refine hp_ic (pc' := 9) (t := 13) (a := x.toInt) (b := 4) rfl rfl rfl rfl (by decide) (fun (h3 : 4 < x.toInt) => ?_) (fun (h4 : ¬ (4 < x.toInt)) => ?_)
    ·
      refine hp_s (pc' := 14) (st' := [.int 0]) rfl rfl rfl ?_
      refine hp_rb rfl rfl (fun _ => ?_)
      first | (exact k1 (by first | assumption | omega)) | (exfalso; omega)
    ·
      refine hp_s (pc' := 10) (st' := [.int 1]) rfl rfl rfl ?_
      refine hp_go (pc' := 14) rfl rfl rfl ?_
      refine hp_rb rfl rfl (fun _ => ?_)
      first | (exact k0 (by first | assumption | omega) (by first | assumption | omega)) | (exfalso; omega)
theorem s_isBare {ro : List (List Int32)} {n d : Nat} {p : xH} {Q : Option Value → xH → Prop} {x : Int32} {xi : Int} (hx : x.toInt = xi)  (k0 : (0 ≤ xi) → (xi < 6) → ((rI p 61 xi.toNat).toInt = 0) → Q (some (.int (1))) p) (k1 : (0 ≤ xi) → (xi < 6) → ((rI p 61 xi.toNat).toInt ≠ 0) → Q (some (.int (0))) p) : hP ro n d (6, 2, 1, 2, k68) 0 (lv_args 0 [.ref 60, .int x]) [] p Q := by
  subst hx
  refine hp_id (ls := [(0, .ref 60), (1, .int x)]) ?_
  refine hp_s (pc' := 1) (st' := [.ref 60]) rfl rfl rfl ?_
  refine hp_getr (k := 0) (w := .ref 61) (pc' := 4) rfl rfl rfl rfl rfl ?_
  refine hp_s (pc' := 5) (st' := [.int x, .ref 61]) rfl rfl rfl ?_
  refine hp_ld (t := 100) (v := (rI p 61 x.toInt.toNat)) rfl (.inl rfl) rfl rfl rfl ?_
  intro (g1a : 0 ≤ x.toInt) (g1b : x.toInt < 6)
  refine hp_if (pc' := 9) (t := 13) (a := (rI p 61 x.toInt.toNat).toInt) rfl rfl rfl rfl (fun (h1 : (rI p 61 x.toInt.toNat).toInt ≠ 0) => ?_) (fun (h2 : ¬ ((rI p 61 x.toInt.toNat).toInt ≠ 0)) => ?_)
  ·
    refine hp_s (pc' := 14) (st' := [.int 0]) rfl rfl rfl ?_
    refine hp_rb rfl rfl (fun _ => ?_)
    first | (exact k1 (by first | assumption | omega) (by first | assumption | omega) (by first | assumption | omega)) | (exfalso; omega)
  ·
    refine hp_s (pc' := 10) (st' := [.int 1]) rfl rfl rfl ?_
    refine hp_go (pc' := 14) rfl rfl rfl ?_
    refine hp_rb rfl rfl (fun _ => ?_)
    first | (exact k0 (by first | assumption | omega) (by first | assumption | omega) (by first | assumption | omega)) | (exfalso; omega)
theorem s_isRowOf {ro : List (List Int32)} {n d : Nat} {p : xH} {Q : Option Value → xH → Prop} {x : Int32} {xi : Int} {y : Int32} {yi : Int} (hx : x.toInt = xi) (hy : y.toInt = yi)  (k0 : (0 ≤ xi) → (xi < 6) → ((rI p 61 xi.toNat).toInt = 2) → ((rI p 63 xi.toNat).toInt = yi) → Q (some (.int (1))) p) (k1 : (0 ≤ xi) → (xi < 6) → (¬ ((rI p 61 xi.toNat).toInt = 2 ∧ (rI p 63 xi.toNat).toInt = yi)) → Q (some (.int (0))) p) : hP ro n d (6, 3, 1, 2, k69) 0 (lv_args 0 [.ref 60, .int x, .int y]) [] p Q := by
  subst hx
  subst hy
  refine hp_id (ls := [(0, .ref 60), (1, .int x), (2, .int y)]) ?_
  refine hp_s (pc' := 1) (st' := [.ref 60]) rfl rfl rfl ?_
  refine hp_getr (k := 0) (w := .ref 61) (pc' := 4) rfl rfl rfl rfl rfl ?_
  refine hp_s (pc' := 5) (st' := [.int x, .ref 61]) rfl rfl rfl ?_
  refine hp_ld (t := 100) (v := (rI p 61 x.toInt.toNat)) rfl (.inl rfl) rfl rfl rfl ?_
  intro (g1a : 0 ≤ x.toInt) (g1b : x.toInt < 6)
  refine hp_s (pc' := 7) (st' := [.int 2, .int (rI p 61 x.toInt.toNat)]) rfl rfl rfl ?_
  refine hp_ic (pc' := 10) (t := 24) (a := (rI p 61 x.toInt.toNat).toInt) (b := 2) rfl rfl rfl rfl (by decide) (fun (h1 : (rI p 61 x.toInt.toNat).toInt ≠ 2) => ?_) (fun (h2 : ¬ ((rI p 61 x.toInt.toNat).toInt ≠ 2)) => ?_)
  ·
    refine hp_s (pc' := 25) (st' := [.int 0]) rfl rfl rfl ?_
    refine hp_rb rfl rfl (fun _ => ?_)
    first | (exact k1 (by first | assumption | omega) (by first | assumption | omega) (by first | assumption | omega)) | (exfalso; omega)
  ·
    refine hp_s (pc' := 11) (st' := [.ref 60]) rfl rfl rfl ?_
    refine hp_getr (k := 2) (w := .ref 63) (pc' := 14) rfl rfl rfl rfl rfl ?_
    refine hp_s (pc' := 15) (st' := [.int x, .ref 63]) rfl rfl rfl ?_
    refine hp_ld (t := 100) (v := (rI p 63 x.toInt.toNat)) rfl (.inl rfl) rfl rfl rfl ?_
    intro (g2a : 0 ≤ x.toInt) (g2b : x.toInt < 6)
    refine hp_s (pc' := 17) (st' := [.int y, .int (rI p 63 x.toInt.toNat)]) rfl rfl rfl ?_
    refine hp_ic (pc' := 20) (t := 24) (a := (rI p 63 x.toInt.toNat).toInt) (b := y.toInt) rfl rfl rfl rfl rfl (fun (h3 : (rI p 63 x.toInt.toNat).toInt ≠ y.toInt) => ?_) (fun (h4 : ¬ ((rI p 63 x.toInt.toNat).toInt ≠ y.toInt)) => ?_)
    ·
      refine hp_s (pc' := 25) (st' := [.int 0]) rfl rfl rfl ?_
      refine hp_rb rfl rfl (fun _ => ?_)
      first | (exact k1 (by first | assumption | omega) (by first | assumption | omega) (by first | assumption | omega)) | (exfalso; omega)
    ·
      refine hp_s (pc' := 21) (st' := [.int 1]) rfl rfl rfl ?_
      refine hp_go (pc' := 25) rfl rfl rfl ?_
      refine hp_rb rfl rfl (fun _ => ?_)
      first | (exact k0 (by first | assumption | omega) (by first | assumption | omega) (by first | assumption | omega) (by first | assumption | omega)) | (exfalso; omega)
theorem s_sizeOf {ro : List (List Int32)} {n d : Nat} {p : xH} {Q : Option Value → xH → Prop} {x : Int32} {xi : Int} (hx : x.toInt = xi)  (k0 : (0 ≤ xi) → (xi < 6) → Q (some (.int (rI p 64 xi.toNat))) p) : hP ro n d (6, 2, 1, 1, k70) 0 (lv_args 0 [.ref 60, .int x]) [] p Q := by
  subst hx
  refine hp_id (ls := [(0, .ref 60), (1, .int x)]) ?_
  refine hp_s (pc' := 1) (st' := [.ref 60]) rfl rfl rfl ?_
  refine hp_getr (k := 3) (w := .ref 64) (pc' := 4) rfl rfl rfl rfl rfl ?_
  refine hp_s (pc' := 5) (st' := [.int x, .ref 64]) rfl rfl rfl ?_
  refine hp_ld (t := 100) (v := (rI p 64 x.toInt.toNat)) rfl (.inl rfl) rfl rfl rfl ?_
  intro (g1a : 0 ≤ x.toInt) (g1b : x.toInt < 6)
  refine hp_ri rfl rfl ?_
  first | (exact k0 (by first | assumption | omega) (by first | assumption | omega)) | (exfalso; omega)
theorem s_twinOn {ro : List (List Int32)} {n d : Nat} {p : xH} {Q : Option Value → xH → Prop} {x : Int32} {xi : Int} (hx : x.toInt = xi)  (k0 : (0 ≤ xi) → (xi < 6) → ((rI p 61 xi.toNat).toInt = 1) → Q (some (.int (rI p 62 xi.toNat))) p) (k1 : (0 ≤ xi) → (xi < 6) → ((rI p 61 xi.toNat).toInt ≠ 1) → Q (some (.int (-1))) p) : hP ro n d (6, 2, 1, 1, k71) 0 (lv_args 0 [.ref 60, .int x]) [] p Q := by
  subst hx
  refine hp_id (ls := [(0, .ref 60), (1, .int x)]) ?_
  refine hp_s (pc' := 1) (st' := [.ref 60]) rfl rfl rfl ?_
  refine hp_getr (k := 0) (w := .ref 61) (pc' := 4) rfl rfl rfl rfl rfl ?_
  refine hp_s (pc' := 5) (st' := [.int x, .ref 61]) rfl rfl rfl ?_
  refine hp_ld (t := 100) (v := (rI p 61 x.toInt.toNat)) rfl (.inl rfl) rfl rfl rfl ?_
  intro (g1a : 0 ≤ x.toInt) (g1b : x.toInt < 6)
  refine hp_s (pc' := 7) (st' := [.int 1, .int (rI p 61 x.toInt.toNat)]) rfl rfl rfl ?_
  refine hp_ic (pc' := 10) (t := 19) (a := (rI p 61 x.toInt.toNat).toInt) (b := 1) rfl rfl rfl rfl (by decide) (fun (h1 : (rI p 61 x.toInt.toNat).toInt ≠ 1) => ?_) (fun (h2 : ¬ ((rI p 61 x.toInt.toNat).toInt ≠ 1)) => ?_)
  ·
    refine hp_s (pc' := 20) (st' := [.int (-1)]) rfl rfl rfl ?_
    refine hp_ri rfl rfl ?_
    first | (exact k0 (by first | assumption | omega) (by first | assumption | omega) (by first | assumption | omega)) | (exact k1 (by first | assumption | omega) (by first | assumption | omega) (by first | assumption | omega)) | (exfalso; omega)
  ·
    refine hp_s (pc' := 11) (st' := [.ref 60]) rfl rfl rfl ?_
    refine hp_getr (k := 1) (w := .ref 62) (pc' := 14) rfl rfl rfl rfl rfl ?_
    refine hp_s (pc' := 15) (st' := [.int x, .ref 62]) rfl rfl rfl ?_
    refine hp_ld (t := 100) (v := (rI p 62 x.toInt.toNat)) rfl (.inl rfl) rfl rfl rfl ?_
    intro (g2a : 0 ≤ x.toInt) (g2b : x.toInt < 6)
    refine hp_go (pc' := 20) rfl rfl rfl ?_
    refine hp_ri rfl rfl ?_
    first | (exact k0 (by first | assumption | omega) (by first | assumption | omega) (by first | assumption | omega)) | (exact k1 (by first | assumption | omega) (by first | assumption | omega) (by first | assumption | omega)) | (exfalso; omega)
theorem s_refusal {ro : List (List Int32)} {n d : Nat} {p : xH} {Q : Option Value → xH → Prop} {x : Int32} {xi : Int} {y : Int32} {yi : Int} (hx : x.toInt = xi) (hy : y.toInt = yi)  (k0 : (¬ (0 ≤ xi ∧ xi < 6)) → Q (some (.int (-1))) p) (k1 : (0 ≤ xi) → (xi < 6) → ((rI p 61 xi.toNat).toInt = 0) → Q (some (.int (-11))) p) (k2 : (0 ≤ xi) → (xi < 6) → ((rI p 61 xi.toNat).toInt ≠ 0) → ((rI p 61 xi.toNat).toInt ≠ 2) → Q (some (.int (-12))) p) (k3 : (0 ≤ xi) → (xi < 6) → ((rI p 61 xi.toNat).toInt = 2) → (0 ≤ yi) → (yi < (rI p 64 xi.toNat).toInt) → Q (some (.int (0))) p) (k4 : (0 ≤ xi) → (xi < 6) → ((rI p 61 xi.toNat).toInt = 2) → (¬ (0 ≤ yi ∧ yi < (rI p 64 xi.toNat).toInt)) → Q (some (.int (-13))) p) : hP ro n d (6, 3, 1, 1, k74) 0 (lv_args 0 [.ref 60, .int x, .int y]) [] p Q := by
  subst hx
  subst hy
  refine hp_id (ls := [(0, .ref 60), (1, .int x), (2, .int y)]) ?_
  refine hp_s (pc' := 1) (st' := [.ref 60]) rfl rfl rfl ?_
  refine hp_s (pc' := 2) (st' := [.int x, .ref 60]) rfl rfl rfl ?_
  refine hp_cv (r := 60) (o := 6) (kd := 1) (as := [.int x]) (rest := []) (pc' := 5) rfl rfl rfl rfl rfl rfl rfl rfl rfl (fun d1 => ?_)
  refine s_isShelf (xi := x.toInt) rfl ?_ ?_
  ·
    intro h1 h2
    refine hp_id (st := [.int 1]) ?_
    refine hp_go (pc' := 10) rfl rfl rfl ?_
    refine hp_s (pc' := 11) (st' := [.ref 60]) rfl rfl rfl ?_
    refine hp_getr (k := 0) (w := .ref 61) (pc' := 14) rfl rfl rfl rfl rfl ?_
    refine hp_s (pc' := 15) (st' := [.int x, .ref 61]) rfl rfl rfl ?_
    refine hp_ld (t := 100) (v := (rI p 61 x.toInt.toNat)) rfl (.inl rfl) rfl rfl rfl ?_
    intro (g1a : 0 ≤ x.toInt) (g1b : x.toInt < 6)
    refine hp_if (pc' := 19) (t := 22) (a := (rI p 61 x.toInt.toNat).toInt) rfl rfl rfl rfl (fun (h3 : (rI p 61 x.toInt.toNat).toInt ≠ 0) => ?_) (fun (h4 : ¬ ((rI p 61 x.toInt.toNat).toInt ≠ 0)) => ?_)
    ·
      refine hp_s (pc' := 23) (st' := [.ref 60]) rfl rfl rfl ?_
      refine hp_getr (k := 0) (w := .ref 61) (pc' := 26) rfl rfl rfl rfl rfl ?_
      refine hp_s (pc' := 27) (st' := [.int x, .ref 61]) rfl rfl rfl ?_
      refine hp_ld (t := 100) (v := (rI p 61 x.toInt.toNat)) rfl (.inl rfl) rfl rfl rfl ?_
      intro (g2a : 0 ≤ x.toInt) (g2b : x.toInt < 6)
      refine hp_s (pc' := 29) (st' := [.int 2, .int (rI p 61 x.toInt.toNat)]) rfl rfl rfl ?_
      refine hp_ic (pc' := 32) (t := 35) (a := (rI p 61 x.toInt.toNat).toInt) (b := 2) rfl rfl rfl rfl (by decide) (fun (h5 : (rI p 61 x.toInt.toNat).toInt = 2) => ?_) (fun (h6 : ¬ ((rI p 61 x.toInt.toNat).toInt = 2)) => ?_)
      ·
        refine hp_s (pc' := 36) (st' := [.int y]) rfl rfl rfl ?_
        refine hp_if (pc' := 39) (t := 53) (a := y.toInt) rfl rfl rfl rfl (fun (h7 : y.toInt < 0) => ?_) (fun (h8 : ¬ (y.toInt < 0)) => ?_)
        ·
          refine hp_s (pc' := 55) (st' := [.int (-13)]) rfl rfl rfl ?_
          refine hp_ri rfl rfl ?_
          first | (exact k4 (by first | assumption | omega) (by first | assumption | omega) (by first | assumption | omega) (by first | assumption | omega)) | (exfalso; omega)
        ·
          refine hp_s (pc' := 40) (st' := [.int y]) rfl rfl rfl ?_
          refine hp_s (pc' := 41) (st' := [.ref 60, .int y]) rfl rfl rfl ?_
          refine hp_getr (k := 3) (w := .ref 64) (pc' := 44) rfl rfl rfl rfl rfl ?_
          refine hp_s (pc' := 45) (st' := [.int x, .ref 64, .int y]) rfl rfl rfl ?_
          refine hp_ld (t := 100) (v := (rI p 64 x.toInt.toNat)) rfl (.inl rfl) rfl rfl rfl ?_
          intro (g3a : 0 ≤ x.toInt) (g3b : x.toInt < 6)
          refine hp_ic (pc' := 49) (t := 53) (a := y.toInt) (b := (rI p 64 x.toInt.toNat).toInt) rfl rfl rfl rfl rfl (fun (h9 : (rI p 64 x.toInt.toNat).toInt ≤ y.toInt) => ?_) (fun (h10 : ¬ ((rI p 64 x.toInt.toNat).toInt ≤ y.toInt)) => ?_)
          ·
            refine hp_s (pc' := 55) (st' := [.int (-13)]) rfl rfl rfl ?_
            refine hp_ri rfl rfl ?_
            first | (exact k4 (by first | assumption | omega) (by first | assumption | omega) (by first | assumption | omega) (by first | assumption | omega)) | (exfalso; omega)
          ·
            refine hp_s (pc' := 50) (st' := [.int 0]) rfl rfl rfl ?_
            refine hp_go (pc' := 55) rfl rfl rfl ?_
            refine hp_ri rfl rfl ?_
            first | (exact k3 (by first | assumption | omega) (by first | assumption | omega) (by first | assumption | omega) (by first | assumption | omega) (by first | assumption | omega)) | (exfalso; omega)
      ·
        refine hp_s (pc' := 34) (st' := [.int (-12)]) rfl rfl rfl ?_
        refine hp_ri rfl rfl ?_
        first | (exact k2 (by first | assumption | omega) (by first | assumption | omega) (by first | assumption | omega) (by first | assumption | omega)) | (exfalso; omega)
    ·
      refine hp_s (pc' := 21) (st' := [.int (-11)]) rfl rfl rfl ?_
      refine hp_ri rfl rfl ?_
      first | (exact k1 (by first | assumption | omega) (by first | assumption | omega) (by first | assumption | omega)) | (exfalso; omega)
  ·
    intro h11
    refine hp_id (st := [.int 0]) ?_
    refine hp_go (pc' := 8) rfl rfl rfl ?_
    refine hp_s (pc' := 9) (st' := [.int (-1)]) rfl rfl rfl ?_
    refine hp_ri rfl rfl ?_
    first | (exact k0 (by first | assumption | omega)) | (exfalso; omega)
theorem s_read {ro : List (List Int32)} {n d : Nat} {p : xH} {Q : Option Value → xH → Prop} {x : Int32} {xi : Int} {y : Int32} {yi : Int} (hx : x.toInt = xi) (hy : y.toInt = yi) (pre0 : 0 ≤ xi) (pre1 : xi < 6) (pre2 : 0 ≤ yi) (pre3 : yi ≤ 60) (k0 : ∀ z : Int64, (z = rJ p 65 (60 * xi + yi).toNat) → Q (some (.long z)) p) : hP ro n d (6, 3, 1, 3, k75) 0 (lv_args 0 [.ref 60, .int x, .int y]) [] p Q := by
  subst hx
  subst hy
  refine hp_id (ls := [(0, .ref 60), (1, .int x), (2, .int y)]) ?_
  refine hp_s (pc' := 1) (st' := [.ref 60]) rfl rfl rfl ?_
  refine hp_getr (k := 4) (w := .ref 65) (pc' := 4) rfl rfl rfl rfl rfl ?_
  refine hp_s (pc' := 5) (st' := [.int x, .ref 65]) rfl rfl rfl ?_
  refine hp_s (pc' := 7) (st' := [.int 60, .int x, .ref 65]) rfl rfl rfl ?_
  refine hp_z (pc' := 8) (e := x * 60) (st' := [.ref 65]) rfl rfl rfl ?_
  intro z1 hz1
  have ez1 := i_mul hz1 (show x.toInt = x.toInt from rfl) (show (60 : Int32).toInt = 60 from by decide)
  refine hp_s (pc' := 9) (st' := [.int y, .int z1, .ref 65]) rfl rfl rfl ?_
  refine hp_z (pc' := 10) (e := z1 + y) (st' := [.ref 65]) rfl rfl rfl ?_
  intro z2 hz2
  have ez2 := i_add hz2 (show z1.toInt = z1.toInt from rfl) (show y.toInt = y.toInt from rfl)
  refine hp_ldl (v := (rJ p 65 z2.toInt.toNat)) rfl rfl rfl rfl ?_
  intro (g1a : 0 ≤ z2.toInt) (g1b : z2.toInt < 360)
  refine hp_rl rfl rfl ?_
  first | (exact k0 _ (by first | assumption | omega | (congr 1; omega) | (congr 2; omega))) | (exfalso; omega)
theorem s_lowest {ro : List (List Int32)} {n d : Nat} {p : xH} {Q : Option Value → xH → Prop} {x : Int32} {xi : Int} {v : Int64} {vi : Int} (hx : x.toInt = xi) (hv : v.toInt = vi)  (k0 : ∀ z : Int64, (z = hSort xi v) → Q (some (.long z)) p) : hP ro n d (6, 3, 0, 3, k77) 0 (lv_args 0 [.int x, .long v]) [] p Q := by
  subst hx
  subst hv
  refine hp_id (ls := [(0, .int x), (1, .long v)]) ?_
  refine hp_s (pc' := 1) (st' := [.int x]) rfl rfl rfl ?_
  by_cases h1 : x.toInt = 0
  ·
    refine hp_sw (v := 0) (t := 36) rfl rfl (h1) rfl ?_
    refine hp_s (pc' := 37) (st' := [.long v]) rfl rfl rfl ?_
    refine hp_z (pc' := 38) (e := v.toInt32) (st' := []) rfl rfl rfl ?_
    intro z1 hz1
    refine hp_z (pc' := 39) (e := z1.toInt8.toInt32) (st' := []) rfl rfl rfl ?_
    intro z2 hz2
    refine hp_i2l (pc' := 40) rfl rfl ?_
    intro z3 hz3 ez3
    refine hp_rl rfl rfl ?_
    first | (exact k0 _ (by subst_vars; unfold hSort; repeat (first | rfl | rw [if_pos (by omega)] | rw [if_neg (by omega)]))) | (exfalso; omega)
  by_cases h2 : x.toInt = 1
  ·
    refine hp_sw (v := 1) (t := 41) rfl rfl (h2) rfl ?_
    refine hp_s (pc' := 42) (st' := [.long v]) rfl rfl rfl ?_
    refine hp_z (pc' := 43) (e := v.toInt32) (st' := []) rfl rfl rfl ?_
    intro z4 hz4
    refine hp_z (pc' := 44) (e := z4.toInt16.toInt32) (st' := []) rfl rfl rfl ?_
    intro z5 hz5
    refine hp_i2l (pc' := 45) rfl rfl ?_
    intro z6 hz6 ez6
    refine hp_rl rfl rfl ?_
    first | (exact k0 _ (by subst_vars; unfold hSort; repeat (first | rfl | rw [if_pos (by omega)] | rw [if_neg (by omega)]))) | (exfalso; omega)
  by_cases h3 : x.toInt = 2
  ·
    refine hp_sw (v := 2) (t := 46) rfl rfl (h3) rfl ?_
    refine hp_s (pc' := 47) (st' := [.long v]) rfl rfl rfl ?_
    refine hp_z (pc' := 48) (e := v.toInt32) (st' := []) rfl rfl rfl ?_
    intro z7 hz7
    refine hp_i2l (pc' := 49) rfl rfl ?_
    intro z8 hz8 ez8
    refine hp_rl rfl rfl ?_
    first | (exact k0 _ (by subst_vars; unfold hSort; repeat (first | rfl | rw [if_pos (by omega)] | rw [if_neg (by omega)]))) | (exfalso; omega)
  by_cases h4 : x.toInt = 3
  ·
    refine hp_sw (v := 3) (t := 62) rfl rfl (h4) rfl ?_
    refine hp_s (pc' := 63) (st' := [.long v]) rfl rfl rfl ?_
    refine hp_rl rfl rfl ?_
    first | (exact k0 _ (by subst_vars; unfold hSort; repeat (first | rfl | rw [if_pos (by omega)] | rw [if_neg (by omega)]))) | (exfalso; omega)
  by_cases h5 : x.toInt = 4
  ·
    refine hp_sw (v := 4) (t := 50) rfl rfl (h5) rfl ?_
    refine hp_s (pc' := 51) (st' := [.long v]) rfl rfl rfl ?_
    refine hp_s (pc' := 52) (st' := [.long 0, .long v]) rfl rfl rfl ?_
    refine hp_lc (pc' := 56) (t := 60) (a := v.toInt) (b := 0) rfl rfl rfl rfl rfl (by decide) (fun (h6 : v.toInt = 0) => ?_) (fun (h7 : ¬ (v.toInt = 0)) => ?_)
    ·
      refine hp_s (pc' := 61) (st' := [.long 0]) rfl rfl rfl ?_
      refine hp_rl rfl rfl ?_
      first | (exact k0 _ (by subst_vars; unfold hSort; repeat (first | rfl | rw [if_pos (by omega)] | rw [if_neg (by omega)]))) | (exfalso; omega)
    ·
      refine hp_s (pc' := 57) (st' := [.long 1]) rfl rfl rfl ?_
      refine hp_go (pc' := 61) rfl rfl rfl ?_
      refine hp_rl rfl rfl ?_
      first | (exact k0 _ (by subst_vars; unfold hSort; repeat (first | rfl | rw [if_pos (by omega)] | rw [if_neg (by omega)]))) | (exfalso; omega)
  refine hp_td (t := 62) rfl rfl (by omega) ?_
  refine hp_s (pc' := 63) (st' := [.long v]) rfl rfl rfl ?_
  refine hp_rl rfl rfl ?_
  first | (exact k0 _ (by subst_vars; unfold hSort; repeat (first | rfl | rw [if_pos (by omega)] | rw [if_neg (by omega)]))) | (exfalso; omega)
theorem s_write {ro : List (List Int32)} {n d : Nat} {p : xH} {Q : Option Value → xH → Prop} {x : Int32} {xi : Int} {y : Int32} {yi : Int} {v : Int64} {vi : Int} (hx : x.toInt = xi) (hy : y.toInt = yi) (hv : v.toInt = vi) (pre0 : 0 ≤ xi) (pre1 : xi < 6) (pre2 : 0 ≤ yi) (pre3 : yi ≤ 60) (k0 : ∀ p2 : xH, p2 = (wV p 65 ((60 * xi + yi).toNat) (.long (hSort (rI p 63 xi.toNat).toInt v))) → Q none p2) : hP ro n d (6, 5, 1, 0, k76) 0 (lv_args 0 [.ref 60, .int x, .int y, .long v]) [] p Q := by
  subst hx
  subst hy
  subst hv
  refine hp_id (ls := [(0, .ref 60), (1, .int x), (2, .int y), (3, .long v)]) ?_
  refine hp_s (pc' := 1) (st' := [.ref 60]) rfl rfl rfl ?_
  refine hp_getr (k := 4) (w := .ref 65) (pc' := 4) rfl rfl rfl rfl rfl ?_
  refine hp_s (pc' := 5) (st' := [.int x, .ref 65]) rfl rfl rfl ?_
  refine hp_s (pc' := 7) (st' := [.int 60, .int x, .ref 65]) rfl rfl rfl ?_
  refine hp_z (pc' := 8) (e := x * 60) (st' := [.ref 65]) rfl rfl rfl ?_
  intro z1 hz1
  have ez1 := i_mul hz1 (show x.toInt = x.toInt from rfl) (show (60 : Int32).toInt = 60 from by decide)
  refine hp_s (pc' := 9) (st' := [.int y, .int z1, .ref 65]) rfl rfl rfl ?_
  refine hp_z (pc' := 10) (e := z1 + y) (st' := [.ref 65]) rfl rfl rfl ?_
  intro z2 hz2
  have ez2 := i_add hz2 (show z1.toInt = z1.toInt from rfl) (show y.toInt = y.toInt from rfl)
  refine hp_s (pc' := 11) (st' := [.ref 60, .int z2, .ref 65]) rfl rfl rfl ?_
  refine hp_getr (k := 2) (w := .ref 63) (pc' := 14) rfl rfl rfl rfl rfl ?_
  refine hp_s (pc' := 15) (st' := [.int x, .ref 63, .int z2, .ref 65]) rfl rfl rfl ?_
  refine hp_ld (t := 100) (v := (rI p 63 x.toInt.toNat)) rfl (.inl rfl) rfl rfl rfl ?_
  intro (g1a : 0 ≤ x.toInt) (g1b : x.toInt < 6)
  refine hp_s (pc' := 17) (st' := [.long v, .int (rI p 63 x.toInt.toNat), .int z2, .ref 65]) rfl rfl rfl ?_
  refine hp_cs (kd := 0) (as := [.int (rI p 63 x.toInt.toNat), .long v]) (rest := [.int z2, .ref 65]) (pc' := 20) rfl rfl rfl rfl rfl rfl rfl (fun d1 => ?_)
  refine s_lowest (xi := (rI p 63 x.toInt.toNat).toInt) rfl (vi := v.toInt) rfl ?_
  intro y1 h1
  refine hp_id (st := [.long y1, .int z2, .ref 65]) ?_
  refine hp_stl rfl rfl rfl ?_
  intro p1 wp1 (p1a : 0 ≤ z2.toInt) (p1b : z2.toInt < 360) ep1
  refine hp_rv rfl rfl ?_
  first | (exact k0 _ (by subst_vars; repeat' (first | with_reducible rfl | omega | rfl | congr 1))) | (exfalso; omega)
theorem X_put {ro : List (List Int32)} {n d : Nat} {p : xH} {Q : Option Value → xH → Prop} {x : Int32} {xi : Int} {y : Int32} {yi : Int} {v : Int64} {vi : Int} (hx : x.toInt = xi) (hy : y.toInt = yi) (hv : v.toInt = vi) (pre0 : (rI p 64 xi.toNat).toInt ≤ 60) (k0 : (¬ (0 ≤ xi ∧ xi < 6)) → Q (some (.int (-1))) p) (k1 : (0 ≤ xi) → (xi < 6) → ((rI p 61 xi.toNat).toInt = 0) → Q (some (.int (-11))) p) (k2 : (0 ≤ xi) → (xi < 6) → ((rI p 61 xi.toNat).toInt ≠ 0) → ((rI p 61 xi.toNat).toInt ≠ 2) → Q (some (.int (-12))) p) (k3 : ∀ p2 : xH, p2 = (wV p 65 ((60 * xi + yi).toNat) (.long (hSort (rI p 63 xi.toNat).toInt v))) → (0 ≤ xi) → (xi < 6) → ((rI p 61 xi.toNat).toInt = 2) → (0 ≤ yi) → (yi < (rI p 64 xi.toNat).toInt) → Q (some (.int (1))) p2) (k4 : (0 ≤ xi) → (xi < 6) → ((rI p 61 xi.toNat).toInt = 2) → (¬ (0 ≤ yi ∧ yi < (rI p 64 xi.toNat).toInt)) → Q (some (.int (-13))) p) : hP ro n d (11, 6, 1, 1, k167) 0 (lv_args 0 [.ref 0, .int x, .int y, .long v]) [] p Q := by
  subst hx
  subst hy
  subst hv
  refine hp_id (ls := [(0, .ref 0), (1, .int x), (2, .int y), (3, .long v)]) ?_
  refine hp_s (pc' := 1) (st' := [.ref 0]) rfl rfl rfl ?_
  refine hp_getr (k := 13) (w := .ref 60) (pc' := 4) rfl rfl rfl rfl rfl ?_
  refine hp_s (pc' := 5) (st' := [.int x, .ref 60]) rfl rfl rfl ?_
  refine hp_s (pc' := 6) (st' := [.int y, .int x, .ref 60]) rfl rfl rfl ?_
  refine hp_cv (r := 60) (o := 6) (kd := 1) (as := [.int x, .int y]) (rest := []) (pc' := 9) rfl rfl rfl rfl rfl rfl rfl rfl rfl (fun d1 => ?_)
  refine s_refusal (xi := x.toInt) rfl (yi := y.toInt) rfl ?_ ?_ ?_ ?_ ?_
  ·
    intro h1
    refine hp_id (st := [.int (-1)]) ?_
    refine hp_s (pc' := 11) (ls' := [(5, .int (-1)), (0, .ref 0), (1, .int x), (2, .int y), (3, .long v)]) (st' := []) rfl rfl rfl ?_
    refine hp_s (pc' := 13) (st' := [.int (-1)]) rfl rfl rfl ?_
    refine hp_go (pc' := 16) rfl rfl rfl ?_
    refine hp_s (pc' := 18) (st' := [.int (-1)]) rfl rfl rfl ?_
    refine hp_ri rfl rfl ?_
    first | (exact k0 (by first | assumption | omega)) | (exfalso; omega)
  ·
    intro h2 h3 h4
    refine hp_id (st := [.int (-11)]) ?_
    refine hp_s (pc' := 11) (ls' := [(5, .int (-11)), (0, .ref 0), (1, .int x), (2, .int y), (3, .long v)]) (st' := []) rfl rfl rfl ?_
    refine hp_s (pc' := 13) (st' := [.int (-11)]) rfl rfl rfl ?_
    refine hp_go (pc' := 16) rfl rfl rfl ?_
    refine hp_s (pc' := 18) (st' := [.int (-11)]) rfl rfl rfl ?_
    refine hp_ri rfl rfl ?_
    first | (exact k1 (by first | assumption | omega) (by first | assumption | omega) (by first | assumption | omega)) | (exfalso; omega)
  ·
    intro h5 h6 h7 h8
    refine hp_id (st := [.int (-12)]) ?_
    refine hp_s (pc' := 11) (ls' := [(5, .int (-12)), (0, .ref 0), (1, .int x), (2, .int y), (3, .long v)]) (st' := []) rfl rfl rfl ?_
    refine hp_s (pc' := 13) (st' := [.int (-12)]) rfl rfl rfl ?_
    refine hp_go (pc' := 16) rfl rfl rfl ?_
    refine hp_s (pc' := 18) (st' := [.int (-12)]) rfl rfl rfl ?_
    refine hp_ri rfl rfl ?_
    first | (exact k2 (by first | assumption | omega) (by first | assumption | omega) (by first | assumption | omega) (by first | assumption | omega)) | (exfalso; omega)
  ·
    intro h9 h10 h11 h12 h13
    refine hp_id (st := [.int 0]) ?_
    refine hp_s (pc' := 11) (ls' := [(5, .int 0), (0, .ref 0), (1, .int x), (2, .int y), (3, .long v)]) (st' := []) rfl rfl rfl ?_
    refine hp_s (pc' := 13) (st' := [.int 0]) rfl rfl rfl ?_
    refine hp_go (pc' := 19) rfl rfl rfl ?_
    refine hp_s (pc' := 20) (st' := [.ref 0]) rfl rfl rfl ?_
    refine hp_getr (k := 13) (w := .ref 60) (pc' := 23) rfl rfl rfl rfl rfl ?_
    refine hp_s (pc' := 24) (st' := [.int x, .ref 60]) rfl rfl rfl ?_
    refine hp_s (pc' := 25) (st' := [.int y, .int x, .ref 60]) rfl rfl rfl ?_
    refine hp_s (pc' := 26) (st' := [.long v, .int y, .int x, .ref 60]) rfl rfl rfl ?_
    refine hp_cv (r := 60) (o := 6) (kd := 1) (as := [.int x, .int y, .long v]) (rest := []) (pc' := 29) rfl rfl rfl rfl rfl rfl rfl rfl rfl (fun d2 => ?_)
    refine s_write (xi := x.toInt) rfl (yi := y.toInt) rfl (vi := v.toInt) rfl (by first | assumption | omega) (by first | assumption | omega) (by first | assumption | omega) (by first | assumption | omega) ?_
    intro p1 ep1
    refine hp_id (st := []) ?_
    refine hp_s (pc' := 30) (st' := [.int 1]) rfl rfl rfl ?_
    refine hp_ri rfl rfl ?_
    first | (exact k3 _ (by subst_vars; rfl) (by first | assumption | omega) (by first | assumption | omega) (by first | assumption | omega) (by first | assumption | omega) (by first | assumption | omega)) | (exfalso; omega)
  ·
    intro h14 h15 h16 h17
    refine hp_id (st := [.int (-13)]) ?_
    refine hp_s (pc' := 11) (ls' := [(5, .int (-13)), (0, .ref 0), (1, .int x), (2, .int y), (3, .long v)]) (st' := []) rfl rfl rfl ?_
    refine hp_s (pc' := 13) (st' := [.int (-13)]) rfl rfl rfl ?_
    refine hp_go (pc' := 16) rfl rfl rfl ?_
    refine hp_s (pc' := 18) (st' := [.int (-13)]) rfl rfl rfl ?_
    refine hp_ri rfl rfl ?_
    first | (exact k4 (by first | assumption | omega) (by first | assumption | omega) (by first | assumption | omega) (by first | assumption | omega)) | (exfalso; omega)
theorem X_element {ro : List (List Int32)} {n d : Nat} {p : xH} {Q : Option Value → xH → Prop} {x : Int32} {xi : Int} {y : Int32} {yi : Int} (hx : x.toInt = xi) (hy : y.toInt = yi) (pre0 : (rI p 64 xi.toNat).toInt ≤ 60) (k0 : (¬ (0 ≤ xi ∧ xi < 6)) → Q (some (.long (-9223372036854775808))) p) (k1 : (0 ≤ xi) → (xi < 6) → ((rI p 61 xi.toNat).toInt ≠ 2) → Q (some (.long (-9223372036854775808))) p) (k2 : (0 ≤ xi) → (xi < 6) → ((rI p 61 xi.toNat).toInt = 2) → (¬ (0 ≤ yi ∧ yi < (rI p 64 xi.toNat).toInt)) → Q (some (.long (-9223372036854775808))) p) (k3 : ∀ z : Int64, (0 ≤ xi) → (xi < 6) → ((rI p 61 xi.toNat).toInt = 2) → (0 ≤ yi) → (yi < (rI p 64 xi.toNat).toInt) → (z = rJ p 65 (60 * xi + yi).toNat) → Q (some (.long z)) p) : hP ro n d (11, 3, 1, 3, k168) 0 (lv_args 0 [.ref 0, .int x, .int y]) [] p Q := by
  subst hx
  subst hy
  refine hp_id (ls := [(0, .ref 0), (1, .int x), (2, .int y)]) ?_
  refine hp_s (pc' := 1) (st' := [.ref 0]) rfl rfl rfl ?_
  refine hp_getr (k := 13) (w := .ref 60) (pc' := 4) rfl rfl rfl rfl rfl ?_
  refine hp_s (pc' := 5) (st' := [.int x, .ref 60]) rfl rfl rfl ?_
  refine hp_s (pc' := 6) (st' := [.int y, .int x, .ref 60]) rfl rfl rfl ?_
  refine hp_cv (r := 60) (o := 6) (kd := 1) (as := [.int x, .int y]) (rest := []) (pc' := 9) rfl rfl rfl rfl rfl rfl rfl rfl rfl (fun d1 => ?_)
  refine s_refusal (xi := x.toInt) rfl (yi := y.toInt) rfl ?_ ?_ ?_ ?_ ?_
  ·
    intro h1
    refine hp_id (st := [.int (-1)]) ?_
    refine hp_go (pc' := 24) rfl rfl rfl ?_
    refine hp_s (pc' := 27) (st' := [.long (-9223372036854775808)]) rfl rfl rfl ?_
    refine hp_rl rfl rfl ?_
    first | (exact k0 (by first | assumption | omega)) | (exact k1 (by first | assumption | omega) (by first | assumption | omega) (by first | assumption | omega)) | (exact k2 (by first | assumption | omega) (by first | assumption | omega) (by first | assumption | omega) (by first | assumption | omega)) | (exact k3 _ (by first | assumption | omega) (by first | assumption | omega) (by first | assumption | omega) (by first | assumption | omega) (by first | assumption | omega) (by first | assumption | omega)) | (exfalso; omega)
  ·
    intro h2 h3 h4
    refine hp_id (st := [.int (-11)]) ?_
    refine hp_go (pc' := 24) rfl rfl rfl ?_
    refine hp_s (pc' := 27) (st' := [.long (-9223372036854775808)]) rfl rfl rfl ?_
    refine hp_rl rfl rfl ?_
    first | (exact k0 (by first | assumption | omega)) | (exact k1 (by first | assumption | omega) (by first | assumption | omega) (by first | assumption | omega)) | (exact k2 (by first | assumption | omega) (by first | assumption | omega) (by first | assumption | omega) (by first | assumption | omega)) | (exact k3 _ (by first | assumption | omega) (by first | assumption | omega) (by first | assumption | omega) (by first | assumption | omega) (by first | assumption | omega) (by first | assumption | omega)) | (exfalso; omega)
  ·
    intro h5 h6 h7 h8
    refine hp_id (st := [.int (-12)]) ?_
    refine hp_go (pc' := 24) rfl rfl rfl ?_
    refine hp_s (pc' := 27) (st' := [.long (-9223372036854775808)]) rfl rfl rfl ?_
    refine hp_rl rfl rfl ?_
    first | (exact k0 (by first | assumption | omega)) | (exact k1 (by first | assumption | omega) (by first | assumption | omega) (by first | assumption | omega)) | (exact k2 (by first | assumption | omega) (by first | assumption | omega) (by first | assumption | omega) (by first | assumption | omega)) | (exact k3 _ (by first | assumption | omega) (by first | assumption | omega) (by first | assumption | omega) (by first | assumption | omega) (by first | assumption | omega) (by first | assumption | omega)) | (exfalso; omega)
  ·
    intro h9 h10 h11 h12 h13
    refine hp_id (st := [.int 0]) ?_
    refine hp_go (pc' := 12) rfl rfl rfl ?_
    refine hp_s (pc' := 13) (st' := [.ref 0]) rfl rfl rfl ?_
    refine hp_getr (k := 13) (w := .ref 60) (pc' := 16) rfl rfl rfl rfl rfl ?_
    refine hp_s (pc' := 17) (st' := [.int x, .ref 60]) rfl rfl rfl ?_
    refine hp_s (pc' := 18) (st' := [.int y, .int x, .ref 60]) rfl rfl rfl ?_
    refine hp_cv (r := 60) (o := 6) (kd := 1) (as := [.int x, .int y]) (rest := []) (pc' := 21) rfl rfl rfl rfl rfl rfl rfl rfl rfl (fun d2 => ?_)
    refine s_read (xi := x.toInt) rfl (yi := y.toInt) rfl (by first | assumption | omega) (by first | assumption | omega) (by first | assumption | omega) (by first | assumption | omega) ?_
    intro y1 h14
    refine hp_id (st := [.long y1]) ?_
    refine hp_go (pc' := 27) rfl rfl rfl ?_
    refine hp_rl rfl rfl ?_
    first | (exact k0 (by first | assumption | omega)) | (exact k1 (by first | assumption | omega) (by first | assumption | omega) (by first | assumption | omega)) | (exact k2 (by first | assumption | omega) (by first | assumption | omega) (by first | assumption | omega) (by first | assumption | omega)) | (exact k3 _ (by first | assumption | omega) (by first | assumption | omega) (by first | assumption | omega) (by first | assumption | omega) (by first | assumption | omega) (by first | assumption | omega)) | (exfalso; omega)
  ·
    intro h15 h16 h17 h18
    refine hp_id (st := [.int (-13)]) ?_
    refine hp_go (pc' := 24) rfl rfl rfl ?_
    refine hp_s (pc' := 27) (st' := [.long (-9223372036854775808)]) rfl rfl rfl ?_
    refine hp_rl rfl rfl ?_
    first | (exact k0 (by first | assumption | omega)) | (exact k1 (by first | assumption | omega) (by first | assumption | omega) (by first | assumption | omega)) | (exact k2 (by first | assumption | omega) (by first | assumption | omega) (by first | assumption | omega) (by first | assumption | omega)) | (exact k3 _ (by first | assumption | omega) (by first | assumption | omega) (by first | assumption | omega) (by first | assumption | omega) (by first | assumption | omega) (by first | assumption | omega)) | (exfalso; omega)
theorem s_refusalM {ro : List (List Int32)} {n d : Nat} {p : xH} {Q : Option Value → xH → Prop} {x : Int32} {xi : Int} {y : Int32} {yi : Int} (hx : x.toInt = xi) (hy : y.toInt = yi)  (k0 : (¬ (0 ≤ xi ∧ xi < 6)) → Q (some (.int (-1))) p) (k1 : (0 ≤ xi) → (xi < 6) → ((rI p 97 xi.toNat).toInt < 0) → Q (some (.int (-11))) p) (k2 : (0 ≤ xi) → (xi < 6) → (0 ≤ (rI p 97 xi.toNat).toInt) → ((rI p 97 xi.toNat).toInt < 50) → Q (some (.int (-12))) p) (k3 : (0 ≤ xi) → (xi < 6) → (50 ≤ (rI p 97 xi.toNat).toInt) → (0 ≤ yi) → (yi < (rI p 98 xi.toNat).toInt) → Q (some (.int (0))) p) (k4 : (0 ≤ xi) → (xi < 6) → (50 ≤ (rI p 97 xi.toNat).toInt) → (¬ (0 ≤ yi ∧ yi < (rI p 98 xi.toNat).toInt)) → Q (some (.int (-13))) p) : hP ro n d (12, 3, 1, 1, k266) 0 (lv_args 0 [.ref 66, .int x, .int y]) [] p Q := by
  subst hx
  subst hy
  refine hp_id (ls := [(0, .ref 66), (1, .int x), (2, .int y)]) ?_
  refine hp_s (pc' := 1) (st' := [.int x]) rfl rfl rfl ?_
  refine hp_cs (kd := 0) (as := [.int x]) (rest := []) (pc' := 4) rfl rfl rfl rfl rfl rfl rfl (fun d1 => ?_)
  refine s_isShelfM (xi := x.toInt) rfl ?_ ?_
  ·
    intro h1 h2
    refine hp_id (st := [.int 1]) ?_
    refine hp_go (pc' := 9) rfl rfl rfl ?_
    refine hp_s (pc' := 10) (st' := [.ref 66]) rfl rfl rfl ?_
    refine hp_getr (k := 50) (w := .ref 97) (pc' := 13) rfl rfl rfl rfl rfl ?_
    refine hp_s (pc' := 14) (st' := [.int x, .ref 97]) rfl rfl rfl ?_
    refine hp_ld (t := 100) (v := (rI p 97 x.toInt.toNat)) rfl (.inl rfl) rfl rfl rfl ?_
    intro (g1a : 0 ≤ x.toInt) (g1b : x.toInt < 6)
    refine hp_if (pc' := 18) (t := 21) (a := (rI p 97 x.toInt.toNat).toInt) rfl rfl rfl rfl (fun (h3 : 0 ≤ (rI p 97 x.toInt.toNat).toInt) => ?_) (fun (h4 : ¬ (0 ≤ (rI p 97 x.toInt.toNat).toInt)) => ?_)
    ·
      refine hp_s (pc' := 22) (st' := [.ref 66]) rfl rfl rfl ?_
      refine hp_getr (k := 50) (w := .ref 97) (pc' := 25) rfl rfl rfl rfl rfl ?_
      refine hp_s (pc' := 26) (st' := [.int x, .ref 97]) rfl rfl rfl ?_
      refine hp_ld (t := 100) (v := (rI p 97 x.toInt.toNat)) rfl (.inl rfl) rfl rfl rfl ?_
      intro (g2a : 0 ≤ x.toInt) (g2b : x.toInt < 6)
      refine hp_s (pc' := 29) (st' := [.int 50, .int (rI p 97 x.toInt.toNat)]) rfl rfl rfl ?_
      refine hp_ic (pc' := 32) (t := 35) (a := (rI p 97 x.toInt.toNat).toInt) (b := 50) rfl rfl rfl rfl (by decide) (fun (h5 : 50 ≤ (rI p 97 x.toInt.toNat).toInt) => ?_) (fun (h6 : ¬ (50 ≤ (rI p 97 x.toInt.toNat).toInt)) => ?_)
      ·
        refine hp_s (pc' := 36) (st' := [.int y]) rfl rfl rfl ?_
        refine hp_if (pc' := 39) (t := 53) (a := y.toInt) rfl rfl rfl rfl (fun (h7 : y.toInt < 0) => ?_) (fun (h8 : ¬ (y.toInt < 0)) => ?_)
        ·
          refine hp_s (pc' := 55) (st' := [.int (-13)]) rfl rfl rfl ?_
          refine hp_ri rfl rfl ?_
          first | (exact k4 (by first | assumption | omega) (by first | assumption | omega) (by first | assumption | omega) (by first | assumption | omega)) | (exfalso; omega)
        ·
          refine hp_s (pc' := 40) (st' := [.int y]) rfl rfl rfl ?_
          refine hp_s (pc' := 41) (st' := [.ref 66, .int y]) rfl rfl rfl ?_
          refine hp_getr (k := 51) (w := .ref 98) (pc' := 44) rfl rfl rfl rfl rfl ?_
          refine hp_s (pc' := 45) (st' := [.int x, .ref 98, .int y]) rfl rfl rfl ?_
          refine hp_ld (t := 100) (v := (rI p 98 x.toInt.toNat)) rfl (.inl rfl) rfl rfl rfl ?_
          intro (g3a : 0 ≤ x.toInt) (g3b : x.toInt < 6)
          refine hp_ic (pc' := 49) (t := 53) (a := y.toInt) (b := (rI p 98 x.toInt.toNat).toInt) rfl rfl rfl rfl rfl (fun (h9 : (rI p 98 x.toInt.toNat).toInt ≤ y.toInt) => ?_) (fun (h10 : ¬ ((rI p 98 x.toInt.toNat).toInt ≤ y.toInt)) => ?_)
          ·
            refine hp_s (pc' := 55) (st' := [.int (-13)]) rfl rfl rfl ?_
            refine hp_ri rfl rfl ?_
            first | (exact k4 (by first | assumption | omega) (by first | assumption | omega) (by first | assumption | omega) (by first | assumption | omega)) | (exfalso; omega)
          ·
            refine hp_s (pc' := 50) (st' := [.int 0]) rfl rfl rfl ?_
            refine hp_go (pc' := 55) rfl rfl rfl ?_
            refine hp_ri rfl rfl ?_
            first | (exact k3 (by first | assumption | omega) (by first | assumption | omega) (by first | assumption | omega) (by first | assumption | omega) (by first | assumption | omega)) | (exfalso; omega)
      ·
        refine hp_s (pc' := 34) (st' := [.int (-12)]) rfl rfl rfl ?_
        refine hp_ri rfl rfl ?_
        first | (exact k2 (by first | assumption | omega) (by first | assumption | omega) (by first | assumption | omega) (by first | assumption | omega)) | (exfalso; omega)
    ·
      refine hp_s (pc' := 20) (st' := [.int (-11)]) rfl rfl rfl ?_
      refine hp_ri rfl rfl ?_
      first | (exact k1 (by first | assumption | omega) (by first | assumption | omega) (by first | assumption | omega)) | (exfalso; omega)
  ·
    intro h11
    refine hp_id (st := [.int 0]) ?_
    refine hp_go (pc' := 7) rfl rfl rfl ?_
    refine hp_s (pc' := 8) (st' := [.int (-1)]) rfl rfl rfl ?_
    refine hp_ri rfl rfl ?_
    first | (exact k0 (by first | assumption | omega)) | (exfalso; omega)
theorem s_asSort {ro : List (List Int32)} {n d : Nat} {p : xH} {Q : Option Value → xH → Prop} {x : Int32} {xi : Int} {v : Int64} {vi : Int} (hx : x.toInt = xi) (hv : v.toInt = vi)  (k0 : ∀ z : Int64, (z = hSort xi v) → Q (some (.long z)) p) : hP ro n d (12, 3, 0, 3, k267) 0 (lv_args 0 [.int x, .long v]) [] p Q := by
  subst hx
  subst hv
  refine hp_id (ls := [(0, .int x), (1, .long v)]) ?_
  refine hp_s (pc' := 1) (st' := [.int x]) rfl rfl rfl ?_
  refine hp_if (pc' := 4) (t := 11) (a := x.toInt) rfl rfl rfl rfl (fun (h1 : x.toInt ≠ 0) => ?_) (fun (h2 : ¬ (x.toInt ≠ 0)) => ?_)
  ·
    refine hp_s (pc' := 12) (st' := [.int x]) rfl rfl rfl ?_
    refine hp_s (pc' := 13) (st' := [.int 1, .int x]) rfl rfl rfl ?_
    refine hp_ic (pc' := 16) (t := 23) (a := x.toInt) (b := 1) rfl rfl rfl rfl (by decide) (fun (h3 : x.toInt ≠ 1) => ?_) (fun (h4 : ¬ (x.toInt ≠ 1)) => ?_)
    ·
      refine hp_s (pc' := 24) (st' := [.int x]) rfl rfl rfl ?_
      refine hp_s (pc' := 25) (st' := [.int 2, .int x]) rfl rfl rfl ?_
      refine hp_ic (pc' := 28) (t := 34) (a := x.toInt) (b := 2) rfl rfl rfl rfl (by decide) (fun (h5 : x.toInt ≠ 2) => ?_) (fun (h6 : ¬ (x.toInt ≠ 2)) => ?_)
      ·
        refine hp_s (pc' := 35) (st' := [.int x]) rfl rfl rfl ?_
        refine hp_s (pc' := 36) (st' := [.int 4, .int x]) rfl rfl rfl ?_
        refine hp_ic (pc' := 39) (t := 53) (a := x.toInt) (b := 4) rfl rfl rfl rfl (by decide) (fun (h7 : x.toInt ≠ 4) => ?_) (fun (h8 : ¬ (x.toInt ≠ 4)) => ?_)
        ·
          refine hp_s (pc' := 54) (st' := [.long v]) rfl rfl rfl ?_
          refine hp_rl rfl rfl ?_
          first | (exact k0 _ (by subst_vars; unfold hSort; repeat (first | rfl | rw [if_pos (by omega)] | rw [if_neg (by omega)]))) | (exfalso; omega)
        ·
          refine hp_s (pc' := 40) (st' := [.long v]) rfl rfl rfl ?_
          refine hp_s (pc' := 41) (st' := [.long 0, .long v]) rfl rfl rfl ?_
          refine hp_lc (pc' := 45) (t := 49) (a := v.toInt) (b := 0) rfl rfl rfl rfl rfl (by decide) (fun (h9 : v.toInt = 0) => ?_) (fun (h10 : ¬ (v.toInt = 0)) => ?_)
          ·
            refine hp_s (pc' := 50) (st' := [.long 0]) rfl rfl rfl ?_
            refine hp_go (pc' := 54) rfl rfl rfl ?_
            refine hp_rl rfl rfl ?_
            first | (exact k0 _ (by subst_vars; unfold hSort; repeat (first | rfl | rw [if_pos (by omega)] | rw [if_neg (by omega)]))) | (exfalso; omega)
          ·
            refine hp_s (pc' := 46) (st' := [.long 1]) rfl rfl rfl ?_
            refine hp_go (pc' := 54) rfl rfl rfl ?_
            refine hp_rl rfl rfl ?_
            first | (exact k0 _ (by subst_vars; unfold hSort; repeat (first | rfl | rw [if_pos (by omega)] | rw [if_neg (by omega)]))) | (exfalso; omega)
      ·
        refine hp_s (pc' := 29) (st' := [.long v]) rfl rfl rfl ?_
        refine hp_z (pc' := 30) (e := v.toInt32) (st' := []) rfl rfl rfl ?_
        intro z1 hz1
        refine hp_i2l (pc' := 31) rfl rfl ?_
        intro z2 hz2 ez2
        refine hp_go (pc' := 54) rfl rfl rfl ?_
        refine hp_rl rfl rfl ?_
        first | (exact k0 _ (by subst_vars; unfold hSort; repeat (first | rfl | rw [if_pos (by omega)] | rw [if_neg (by omega)]))) | (exfalso; omega)
    ·
      refine hp_s (pc' := 17) (st' := [.long v]) rfl rfl rfl ?_
      refine hp_z (pc' := 18) (e := v.toInt32) (st' := []) rfl rfl rfl ?_
      intro z3 hz3
      refine hp_z (pc' := 19) (e := z3.toInt16.toInt32) (st' := []) rfl rfl rfl ?_
      intro z4 hz4
      refine hp_i2l (pc' := 20) rfl rfl ?_
      intro z5 hz5 ez5
      refine hp_go (pc' := 54) rfl rfl rfl ?_
      refine hp_rl rfl rfl ?_
      first | (exact k0 _ (by subst_vars; unfold hSort; repeat (first | rfl | rw [if_pos (by omega)] | rw [if_neg (by omega)]))) | (exfalso; omega)
  ·
    refine hp_s (pc' := 5) (st' := [.long v]) rfl rfl rfl ?_
    refine hp_z (pc' := 6) (e := v.toInt32) (st' := []) rfl rfl rfl ?_
    intro z6 hz6
    refine hp_z (pc' := 7) (e := z6.toInt8.toInt32) (st' := []) rfl rfl rfl ?_
    intro z7 hz7
    refine hp_i2l (pc' := 8) rfl rfl ?_
    intro z8 hz8 ez8
    refine hp_go (pc' := 54) rfl rfl rfl ?_
    refine hp_rl rfl rfl ?_
    first | (exact k0 _ (by subst_vars; unfold hSort; repeat (first | rfl | rw [if_pos (by omega)] | rw [if_neg (by omega)]))) | (exfalso; omega)
theorem M_put {ro : List (List Int32)} {n d : Nat} {p : xH} {Q : Option Value → xH → Prop} {x : Int32} {xi : Int} {y : Int32} {yi : Int} {v : Int64} {vi : Int} (hx : x.toInt = xi) (hy : y.toInt = yi) (hv : v.toInt = vi) (pre0 : (rI p 98 xi.toNat).toInt ≤ 60) (k0 : (¬ (0 ≤ xi ∧ xi < 6)) → Q (some (.int (-1))) p) (k1 : (0 ≤ xi) → (xi < 6) → ((rI p 97 xi.toNat).toInt < 0) → Q (some (.int (-11))) p) (k2 : (0 ≤ xi) → (xi < 6) → (0 ≤ (rI p 97 xi.toNat).toInt) → ((rI p 97 xi.toNat).toInt < 50) → Q (some (.int (-12))) p) (k3 : ∀ p2 : xH, p2 = (wV p 99 ((60 * xi + yi).toNat) (.long (hSort ((rI p 97 xi.toNat).toInt - 50) v))) → (0 ≤ xi) → (xi < 6) → (50 ≤ (rI p 97 xi.toNat).toInt) → (0 ≤ yi) → (yi < (rI p 98 xi.toNat).toInt) → Q (some (.int (1))) p2) (k4 : (0 ≤ xi) → (xi < 6) → (50 ≤ (rI p 97 xi.toNat).toInt) → (¬ (0 ≤ yi ∧ yi < (rI p 98 xi.toNat).toInt)) → Q (some (.int (-13))) p) : hP ro n d (12, 6, 1, 1, k268) 0 (lv_args 0 [.ref 66, .int x, .int y, .long v]) [] p Q := by
  subst hx
  subst hy
  subst hv
  refine hp_id (ls := [(0, .ref 66), (1, .int x), (2, .int y), (3, .long v)]) ?_
  refine hp_s (pc' := 1) (st' := [.ref 66]) rfl rfl rfl ?_
  refine hp_s (pc' := 2) (st' := [.int x, .ref 66]) rfl rfl rfl ?_
  refine hp_s (pc' := 3) (st' := [.int y, .int x, .ref 66]) rfl rfl rfl ?_
  refine hp_cv (r := 66) (o := 12) (kd := 1) (as := [.int x, .int y]) (rest := []) (pc' := 6) rfl rfl rfl rfl rfl rfl rfl rfl rfl (fun d1 => ?_)
  refine s_refusalM (xi := x.toInt) rfl (yi := y.toInt) rfl ?_ ?_ ?_ ?_ ?_
  ·
    intro h1
    refine hp_id (st := [.int (-1)]) ?_
    refine hp_s (pc' := 8) (ls' := [(5, .int (-1)), (0, .ref 66), (1, .int x), (2, .int y), (3, .long v)]) (st' := []) rfl rfl rfl ?_
    refine hp_s (pc' := 10) (st' := [.int (-1)]) rfl rfl rfl ?_
    refine hp_go (pc' := 37) rfl rfl rfl ?_
    refine hp_s (pc' := 39) (st' := [.int (-1)]) rfl rfl rfl ?_
    refine hp_go (pc' := 46) rfl rfl rfl ?_
    refine hp_s (pc' := 48) (st' := [.int (-1)]) rfl rfl rfl ?_
    refine hp_ri rfl rfl ?_
    first | (exact k0 (by first | assumption | omega)) | (exfalso; omega)
  ·
    intro h2 h3 h4
    refine hp_id (st := [.int (-11)]) ?_
    refine hp_s (pc' := 8) (ls' := [(5, .int (-11)), (0, .ref 66), (1, .int x), (2, .int y), (3, .long v)]) (st' := []) rfl rfl rfl ?_
    refine hp_s (pc' := 10) (st' := [.int (-11)]) rfl rfl rfl ?_
    refine hp_go (pc' := 37) rfl rfl rfl ?_
    refine hp_s (pc' := 39) (st' := [.int (-11)]) rfl rfl rfl ?_
    refine hp_go (pc' := 46) rfl rfl rfl ?_
    refine hp_s (pc' := 48) (st' := [.int (-11)]) rfl rfl rfl ?_
    refine hp_ri rfl rfl ?_
    first | (exact k1 (by first | assumption | omega) (by first | assumption | omega) (by first | assumption | omega)) | (exfalso; omega)
  ·
    intro h5 h6 h7 h8
    refine hp_id (st := [.int (-12)]) ?_
    refine hp_s (pc' := 8) (ls' := [(5, .int (-12)), (0, .ref 66), (1, .int x), (2, .int y), (3, .long v)]) (st' := []) rfl rfl rfl ?_
    refine hp_s (pc' := 10) (st' := [.int (-12)]) rfl rfl rfl ?_
    refine hp_go (pc' := 37) rfl rfl rfl ?_
    refine hp_s (pc' := 39) (st' := [.int (-12)]) rfl rfl rfl ?_
    refine hp_go (pc' := 46) rfl rfl rfl ?_
    refine hp_s (pc' := 48) (st' := [.int (-12)]) rfl rfl rfl ?_
    refine hp_ri rfl rfl ?_
    first | (exact k2 (by first | assumption | omega) (by first | assumption | omega) (by first | assumption | omega) (by first | assumption | omega)) | (exfalso; omega)
  ·
    intro h9 h10 h11 h12 h13
    refine hp_id (st := [.int 0]) ?_
    refine hp_s (pc' := 8) (ls' := [(5, .int 0), (0, .ref 66), (1, .int x), (2, .int y), (3, .long v)]) (st' := []) rfl rfl rfl ?_
    refine hp_s (pc' := 10) (st' := [.int 0]) rfl rfl rfl ?_
    refine hp_go (pc' := 13) rfl rfl rfl ?_
    refine hp_s (pc' := 14) (st' := [.ref 66]) rfl rfl rfl ?_
    refine hp_getr (k := 52) (w := .ref 99) (pc' := 17) rfl rfl rfl rfl rfl ?_
    refine hp_s (pc' := 19) (st' := [.int 60, .ref 99]) rfl rfl rfl ?_
    refine hp_s (pc' := 20) (st' := [.int x, .int 60, .ref 99]) rfl rfl rfl ?_
    refine hp_z (pc' := 21) (e := 60 * x) (st' := [.ref 99]) rfl rfl rfl ?_
    intro z1 hz1
    have ez1 := i_mul hz1 (show (60 : Int32).toInt = 60 from by decide) (show x.toInt = x.toInt from rfl)
    refine hp_s (pc' := 22) (st' := [.int y, .int z1, .ref 99]) rfl rfl rfl ?_
    refine hp_z (pc' := 23) (e := z1 + y) (st' := [.ref 99]) rfl rfl rfl ?_
    intro z2 hz2
    have ez2 := i_add hz2 (show z1.toInt = z1.toInt from rfl) (show y.toInt = y.toInt from rfl)
    refine hp_s (pc' := 24) (st' := [.ref 66, .int z2, .ref 99]) rfl rfl rfl ?_
    refine hp_getr (k := 50) (w := .ref 97) (pc' := 27) rfl rfl rfl rfl rfl ?_
    refine hp_s (pc' := 28) (st' := [.int x, .ref 97, .int z2, .ref 99]) rfl rfl rfl ?_
    refine hp_ld (t := 100) (v := (rI p 97 x.toInt.toNat)) rfl (.inl rfl) rfl rfl rfl ?_
    intro (g1a : 0 ≤ x.toInt) (g1b : x.toInt < 6)
    refine hp_s (pc' := 31) (st' := [.int 50, .int (rI p 97 x.toInt.toNat), .int z2, .ref 99]) rfl rfl rfl ?_
    refine hp_z (pc' := 32) (e := (rI p 97 x.toInt.toNat) - 50) (st' := [.int z2, .ref 99]) rfl rfl rfl ?_
    intro z3 hz3
    have ez3 := i_sub hz3 (show (rI p 97 x.toInt.toNat).toInt = (rI p 97 x.toInt.toNat).toInt from rfl) (show (50 : Int32).toInt = 50 from by decide)
    refine hp_s (pc' := 33) (st' := [.long v, .int z3, .int z2, .ref 99]) rfl rfl rfl ?_
    refine hp_cs (kd := 0) (as := [.int z3, .long v]) (rest := [.int z2, .ref 99]) (pc' := 36) rfl rfl rfl rfl rfl rfl rfl (fun d2 => ?_)
    refine s_asSort (xi := z3.toInt) rfl (vi := v.toInt) rfl ?_
    intro y1 h14
    refine hp_id (st := [.long y1, .int z2, .ref 99]) ?_
    refine hp_stl rfl rfl rfl ?_
    intro p1 wp1 (p1a : 0 ≤ z2.toInt) (p1b : z2.toInt < 360) ep1
    refine hp_s (pc' := 39) (st' := [.int 0]) rfl rfl rfl ?_
    refine hp_go (pc' := 42) rfl rfl rfl ?_
    refine hp_s (pc' := 43) (st' := [.int 1]) rfl rfl rfl ?_
    refine hp_go (pc' := 48) rfl rfl rfl ?_
    refine hp_ri rfl rfl ?_
    first | (exact k3 _ (by subst_vars; repeat' (first | with_reducible rfl | omega | rfl | congr 1)) (by first | assumption | omega) (by first | assumption | omega) (by first | assumption | omega) (by first | assumption | omega) (by first | assumption | omega)) | (exfalso; omega)
  ·
    intro h15 h16 h17 h18
    refine hp_id (st := [.int (-13)]) ?_
    refine hp_s (pc' := 8) (ls' := [(5, .int (-13)), (0, .ref 66), (1, .int x), (2, .int y), (3, .long v)]) (st' := []) rfl rfl rfl ?_
    refine hp_s (pc' := 10) (st' := [.int (-13)]) rfl rfl rfl ?_
    refine hp_go (pc' := 37) rfl rfl rfl ?_
    refine hp_s (pc' := 39) (st' := [.int (-13)]) rfl rfl rfl ?_
    refine hp_go (pc' := 46) rfl rfl rfl ?_
    refine hp_s (pc' := 48) (st' := [.int (-13)]) rfl rfl rfl ?_
    refine hp_ri rfl rfl ?_
    first | (exact k4 (by first | assumption | omega) (by first | assumption | omega) (by first | assumption | omega) (by first | assumption | omega)) | (exfalso; omega)
theorem M_element {ro : List (List Int32)} {n d : Nat} {p : xH} {Q : Option Value → xH → Prop} {x : Int32} {xi : Int} {y : Int32} {yi : Int} (hx : x.toInt = xi) (hy : y.toInt = yi) (pre0 : (rI p 98 xi.toNat).toInt ≤ 60) (k0 : (¬ (0 ≤ xi ∧ xi < 6)) → Q (some (.long (-9223372036854775808))) p) (k1 : (0 ≤ xi) → (xi < 6) → ((rI p 97 xi.toNat).toInt < 50) → Q (some (.long (-9223372036854775808))) p) (k2 : (0 ≤ xi) → (xi < 6) → (50 ≤ (rI p 97 xi.toNat).toInt) → (¬ (0 ≤ yi ∧ yi < (rI p 98 xi.toNat).toInt)) → Q (some (.long (-9223372036854775808))) p) (k3 : ∀ z : Int64, (0 ≤ xi) → (xi < 6) → (50 ≤ (rI p 97 xi.toNat).toInt) → (0 ≤ yi) → (yi < (rI p 98 xi.toNat).toInt) → (z = rJ p 99 (60 * xi + yi).toNat) → Q (some (.long z)) p) : hP ro n d (12, 3, 1, 3, k269) 0 (lv_args 0 [.ref 66, .int x, .int y]) [] p Q := by
  subst hx
  subst hy
  refine hp_id (ls := [(0, .ref 66), (1, .int x), (2, .int y)]) ?_
  refine hp_s (pc' := 1) (st' := [.ref 66]) rfl rfl rfl ?_
  refine hp_s (pc' := 2) (st' := [.int x, .ref 66]) rfl rfl rfl ?_
  refine hp_s (pc' := 3) (st' := [.int y, .int x, .ref 66]) rfl rfl rfl ?_
  refine hp_cv (r := 66) (o := 12) (kd := 1) (as := [.int x, .int y]) (rest := []) (pc' := 6) rfl rfl rfl rfl rfl rfl rfl rfl rfl (fun d1 => ?_)
  refine s_refusalM (xi := x.toInt) rfl (yi := y.toInt) rfl ?_ ?_ ?_ ?_ ?_
  ·
    intro h1
    refine hp_id (st := [.int (-1)]) ?_
    refine hp_go (pc' := 9) rfl rfl rfl ?_
    refine hp_s (pc' := 12) (st' := [.long (-9223372036854775808)]) rfl rfl rfl ?_
    refine hp_go (pc' := 26) rfl rfl rfl ?_
    refine hp_rl rfl rfl ?_
    first | (exact k0 (by first | assumption | omega | (congr 1; omega) | (congr 2; omega))) | (exact k1 (by first | assumption | omega | (congr 1; omega) | (congr 2; omega)) (by first | assumption | omega | (congr 1; omega) | (congr 2; omega)) (by first | assumption | omega | (congr 1; omega) | (congr 2; omega))) | (exact k2 (by first | assumption | omega | (congr 1; omega) | (congr 2; omega)) (by first | assumption | omega | (congr 1; omega) | (congr 2; omega)) (by first | assumption | omega | (congr 1; omega) | (congr 2; omega)) (by first | assumption | omega | (congr 1; omega) | (congr 2; omega))) | (exact k3 _ (by first | assumption | omega | (congr 1; omega) | (congr 2; omega)) (by first | assumption | omega | (congr 1; omega) | (congr 2; omega)) (by first | assumption | omega | (congr 1; omega) | (congr 2; omega)) (by first | assumption | omega | (congr 1; omega) | (congr 2; omega)) (by first | assumption | omega | (congr 1; omega) | (congr 2; omega)) (by first | assumption | omega | (congr 1; omega) | (congr 2; omega))) | (exfalso; omega)
  ·
    intro h2 h3 h4
    refine hp_id (st := [.int (-11)]) ?_
    refine hp_go (pc' := 9) rfl rfl rfl ?_
    refine hp_s (pc' := 12) (st' := [.long (-9223372036854775808)]) rfl rfl rfl ?_
    refine hp_go (pc' := 26) rfl rfl rfl ?_
    refine hp_rl rfl rfl ?_
    first | (exact k0 (by first | assumption | omega | (congr 1; omega) | (congr 2; omega))) | (exact k1 (by first | assumption | omega | (congr 1; omega) | (congr 2; omega)) (by first | assumption | omega | (congr 1; omega) | (congr 2; omega)) (by first | assumption | omega | (congr 1; omega) | (congr 2; omega))) | (exact k2 (by first | assumption | omega | (congr 1; omega) | (congr 2; omega)) (by first | assumption | omega | (congr 1; omega) | (congr 2; omega)) (by first | assumption | omega | (congr 1; omega) | (congr 2; omega)) (by first | assumption | omega | (congr 1; omega) | (congr 2; omega))) | (exact k3 _ (by first | assumption | omega | (congr 1; omega) | (congr 2; omega)) (by first | assumption | omega | (congr 1; omega) | (congr 2; omega)) (by first | assumption | omega | (congr 1; omega) | (congr 2; omega)) (by first | assumption | omega | (congr 1; omega) | (congr 2; omega)) (by first | assumption | omega | (congr 1; omega) | (congr 2; omega)) (by first | assumption | omega | (congr 1; omega) | (congr 2; omega))) | (exfalso; omega)
  ·
    intro h5 h6 h7 h8
    refine hp_id (st := [.int (-12)]) ?_
    refine hp_go (pc' := 9) rfl rfl rfl ?_
    refine hp_s (pc' := 12) (st' := [.long (-9223372036854775808)]) rfl rfl rfl ?_
    refine hp_go (pc' := 26) rfl rfl rfl ?_
    refine hp_rl rfl rfl ?_
    first | (exact k0 (by first | assumption | omega | (congr 1; omega) | (congr 2; omega))) | (exact k1 (by first | assumption | omega | (congr 1; omega) | (congr 2; omega)) (by first | assumption | omega | (congr 1; omega) | (congr 2; omega)) (by first | assumption | omega | (congr 1; omega) | (congr 2; omega))) | (exact k2 (by first | assumption | omega | (congr 1; omega) | (congr 2; omega)) (by first | assumption | omega | (congr 1; omega) | (congr 2; omega)) (by first | assumption | omega | (congr 1; omega) | (congr 2; omega)) (by first | assumption | omega | (congr 1; omega) | (congr 2; omega))) | (exact k3 _ (by first | assumption | omega | (congr 1; omega) | (congr 2; omega)) (by first | assumption | omega | (congr 1; omega) | (congr 2; omega)) (by first | assumption | omega | (congr 1; omega) | (congr 2; omega)) (by first | assumption | omega | (congr 1; omega) | (congr 2; omega)) (by first | assumption | omega | (congr 1; omega) | (congr 2; omega)) (by first | assumption | omega | (congr 1; omega) | (congr 2; omega))) | (exfalso; omega)
  ·
    intro h9 h10 h11 h12 h13
    refine hp_id (st := [.int 0]) ?_
    refine hp_go (pc' := 15) rfl rfl rfl ?_
    refine hp_s (pc' := 16) (st' := [.ref 66]) rfl rfl rfl ?_
    refine hp_getr (k := 52) (w := .ref 99) (pc' := 19) rfl rfl rfl rfl rfl ?_
    refine hp_s (pc' := 21) (st' := [.int 60, .ref 99]) rfl rfl rfl ?_
    refine hp_s (pc' := 22) (st' := [.int x, .int 60, .ref 99]) rfl rfl rfl ?_
    refine hp_z (pc' := 23) (e := 60 * x) (st' := [.ref 99]) rfl rfl rfl ?_
    intro z1 hz1
    have ez1 := i_mul hz1 (show (60 : Int32).toInt = 60 from by decide) (show x.toInt = x.toInt from rfl)
    refine hp_s (pc' := 24) (st' := [.int y, .int z1, .ref 99]) rfl rfl rfl ?_
    refine hp_z (pc' := 25) (e := z1 + y) (st' := [.ref 99]) rfl rfl rfl ?_
    intro z2 hz2
    have ez2 := i_add hz2 (show z1.toInt = z1.toInt from rfl) (show y.toInt = y.toInt from rfl)
    refine hp_ldl (v := (rJ p 99 z2.toInt.toNat)) rfl rfl rfl rfl ?_
    intro (g1a : 0 ≤ z2.toInt) (g1b : z2.toInt < 360)
    refine hp_rl rfl rfl ?_
    first | (exact k0 (by first | assumption | omega | (congr 1; omega) | (congr 2; omega))) | (exact k1 (by first | assumption | omega | (congr 1; omega) | (congr 2; omega)) (by first | assumption | omega | (congr 1; omega) | (congr 2; omega)) (by first | assumption | omega | (congr 1; omega) | (congr 2; omega))) | (exact k2 (by first | assumption | omega | (congr 1; omega) | (congr 2; omega)) (by first | assumption | omega | (congr 1; omega) | (congr 2; omega)) (by first | assumption | omega | (congr 1; omega) | (congr 2; omega)) (by first | assumption | omega | (congr 1; omega) | (congr 2; omega))) | (exact k3 _ (by first | assumption | omega | (congr 1; omega) | (congr 2; omega)) (by first | assumption | omega | (congr 1; omega) | (congr 2; omega)) (by first | assumption | omega | (congr 1; omega) | (congr 2; omega)) (by first | assumption | omega | (congr 1; omega) | (congr 2; omega)) (by first | assumption | omega | (congr 1; omega) | (congr 2; omega)) (by first | assumption | omega | (congr 1; omega) | (congr 2; omega))) | (exfalso; omega)
  ·
    intro h14 h15 h16 h17
    refine hp_id (st := [.int (-13)]) ?_
    refine hp_go (pc' := 9) rfl rfl rfl ?_
    refine hp_s (pc' := 12) (st' := [.long (-9223372036854775808)]) rfl rfl rfl ?_
    refine hp_go (pc' := 26) rfl rfl rfl ?_
    refine hp_rl rfl rfl ?_
    first | (exact k0 (by first | assumption | omega | (congr 1; omega) | (congr 2; omega))) | (exact k1 (by first | assumption | omega | (congr 1; omega) | (congr 2; omega)) (by first | assumption | omega | (congr 1; omega) | (congr 2; omega)) (by first | assumption | omega | (congr 1; omega) | (congr 2; omega))) | (exact k2 (by first | assumption | omega | (congr 1; omega) | (congr 2; omega)) (by first | assumption | omega | (congr 1; omega) | (congr 2; omega)) (by first | assumption | omega | (congr 1; omega) | (congr 2; omega)) (by first | assumption | omega | (congr 1; omega) | (congr 2; omega))) | (exact k3 _ (by first | assumption | omega | (congr 1; omega) | (congr 2; omega)) (by first | assumption | omega | (congr 1; omega) | (congr 2; omega)) (by first | assumption | omega | (congr 1; omega) | (congr 2; omega)) (by first | assumption | omega | (congr 1; omega) | (congr 2; omega)) (by first | assumption | omega | (congr 1; omega) | (congr 2; omega)) (by first | assumption | omega | (congr 1; omega) | (congr 2; omega))) | (exfalso; omega)
theorem lp_73 {ro : List (List Int32)} {d : Nat} {Q : Option Value → xH → Prop} {x y w : Int32} {p0 : xH} (hx0 : 0 ≤ x.toInt) (hx6 : x.toInt < 6) (K : ∀ p2, hOn 65 (fun j => if 60 * x.toInt.toNat ≤ j ∧ j < 60 * x.toInt.toNat + 60 then .long 0 else rV p0 65 j) p0 p2 → Q (some (.int 1)) p2) : ∀ (n : Nat) (k : Int32) (p : xH), (0 ≤ k.toInt) → (k.toInt ≤ 60) → (hOn 65 (fun j => if 60 * x.toInt.toNat ≤ j ∧ j < 60 * x.toInt.toNat + k.toInt.toNat then .long 0 else rV p0 65 j) p0 p) → hP ro n d (6, 5, 1, 1, k73) 24 [(4, .int k), (0, .ref 60), (1, .int x), (2, .int y), (3, .int w)] [] p Q := by
  intro n
  induction n with
  | zero => intros; exact hp_0
  | succ n ih =>
    intro k p h1 h2 hO
    refine hp_s1 (pc' := 26) (st' := [.int k]) rfl rfl rfl ?_
    refine hp_s (pc' := 28) (st' := [.int 60, .int k]) rfl rfl rfl ?_
    refine hp_ic (pc' := 31) (t := 50) (a := k.toInt) (b := 60) rfl rfl rfl rfl (by decide) (fun (h1 : 60 ≤ k.toInt) => ?_) (fun (h2 : ¬ (60 ≤ k.toInt)) => ?_)
    ·
      refine hp_s (pc' := 51) (st' := [.int 1]) rfl rfl rfl ?_
      refine hp_ri rfl rfl ?_
      exact K _ (hO.eq (fun j => by rw [show k.toInt.toNat = 60 by omega]))
    ·
      refine hp_s (pc' := 32) (st' := [.ref 60]) rfl rfl rfl ?_
      refine hp_getr (k := 4) (w := .ref 65) (pc' := 35) rfl rfl rfl rfl rfl ?_
      refine hp_s (pc' := 36) (st' := [.int x, .ref 65]) rfl rfl rfl ?_
      refine hp_s (pc' := 38) (st' := [.int 60, .int x, .ref 65]) rfl rfl rfl ?_
      refine hp_z (pc' := 39) (e := x * 60) (st' := [.ref 65]) rfl rfl rfl ?_
      intro z1 hz1
      have ez1 := i_mul hz1 (show x.toInt = x.toInt from rfl) (show (60 : Int32).toInt = 60 from by decide)
      refine hp_s (pc' := 41) (st' := [.int k, .int z1, .ref 65]) rfl rfl rfl ?_
      refine hp_z (pc' := 42) (e := z1 + k) (st' := [.ref 65]) rfl rfl rfl ?_
      intro z2 hz2
      have ez2 := i_add hz2 (show z1.toInt = z1.toInt from rfl) (show k.toInt = k.toInt from rfl)
      refine hp_s (pc' := 43) (st' := [.long 0, .int z2, .ref 65]) rfl rfl rfl ?_
      refine hp_stl rfl rfl rfl ?_
      intro p1 wp1 (p1a : 0 ≤ z2.toInt) (p1b : z2.toInt < 360) ep1
      refine hp_inc (L := fun z => [(4, .int z), (0, .ref 60), (1, .int x), (2, .int y), (3, .int w)]) (pc' := 47) rfl rfl rfl (fun _ => rfl) rfl ?_
      intro z3 hz3
      have ez3 := i_add hz3 (show k.toInt = k.toInt from rfl) (show (Int32.ofInt 1).toInt = 1 from by decide)
      refine hp_go (pc' := 24) rfl rfl rfl ?_
      refine ih _ _ (by omega) (by omega) ?_
      rw [ep1]
      exact (hO.w wp1 (by show _ < 360; omega)).eq (fun j => if_fill (by omega) (by omega) (by omega))
theorem s_holdRow {ro : List (List Int32)} {n d : Nat} {p : xH} {Q : Option Value → xH → Prop} {x : Int32} {xi : Int} {y : Int32} {yi : Int} {w : Int32} {wi : Int} (hx : x.toInt = xi) (hy : y.toInt = yi) (hw : w.toInt = wi)  (k0 : ∀ p1 : xH, ∀ p2 : xH, (0 ≤ xi) → (xi < 6) → (p1 = wV (wV (wV p 61 xi.toNat (.int 2)) 63 xi.toNat (.int y)) 64 xi.toNat (.int w)) → (hOn 65 (fun j => if 60 * xi.toNat ≤ j ∧ j < 60 * xi.toNat + 60 then .long 0 else rV p1 65 j) p1 p2) → Q (some (.int (1))) p2) : hP ro n d (6, 5, 1, 1, k73) 0 (lv_args 0 [.ref 60, .int x, .int y, .int w]) [] p Q := by
  subst hx
  subst hy
  subst hw
  refine hp_id (ls := [(0, .ref 60), (1, .int x), (2, .int y), (3, .int w)]) ?_
  refine hp_s (pc' := 1) (st' := [.ref 60]) rfl rfl rfl ?_
  refine hp_getr (k := 0) (w := .ref 61) (pc' := 4) rfl rfl rfl rfl rfl ?_
  refine hp_s (pc' := 5) (st' := [.int x, .ref 61]) rfl rfl rfl ?_
  refine hp_s (pc' := 6) (st' := [.int 2, .int x, .ref 61]) rfl rfl rfl ?_
  refine hp_st (t := 100) rfl (.inl rfl) rfl rfl ?_
  intro p1 wp1 (p1a : 0 ≤ x.toInt) (p1b : x.toInt < 6) ep1
  refine hp_s (pc' := 8) (st' := [.ref 60]) rfl rfl rfl ?_
  refine hp_getr (k := 2) (w := .ref 63) (pc' := 11) rfl rfl rfl rfl rfl ?_
  refine hp_s (pc' := 12) (st' := [.int x, .ref 63]) rfl rfl rfl ?_
  refine hp_s (pc' := 13) (st' := [.int y, .int x, .ref 63]) rfl rfl rfl ?_
  refine hp_st (t := 100) rfl (.inl rfl) rfl rfl ?_
  intro p2 wp2 (p2a : 0 ≤ x.toInt) (p2b : x.toInt < 6) ep2
  refine hp_s (pc' := 15) (st' := [.ref 60]) rfl rfl rfl ?_
  refine hp_getr (k := 3) (w := .ref 64) (pc' := 18) rfl rfl rfl rfl rfl ?_
  refine hp_s (pc' := 19) (st' := [.int x, .ref 64]) rfl rfl rfl ?_
  refine hp_s (pc' := 20) (st' := [.int w, .int x, .ref 64]) rfl rfl rfl ?_
  refine hp_st (t := 100) rfl (.inl rfl) rfl rfl ?_
  intro p3 wp3 (p3a : 0 ≤ x.toInt) (p3b : x.toInt < 6) ep3
  refine hp_s (pc' := 22) (st' := [.int 0]) rfl rfl rfl ?_
  refine hp_s (pc' := 24) (ls' := [(4, .int 0), (0, .ref 60), (1, .int x), (2, .int y), (3, .int w)]) (st' := []) rfl rfl rfl ?_
  exact lp_73 (x := x) (p0 := p3) (by omega) (by omega) (fun p2 h => k0 _ _ (by omega) (by omega) (by subst_vars; rfl) h) n 0 _ (by decide) (by decide) ((hOn.refl 65 _).eq (fun j => by rw [if_neg (by have h00 : (0 : Int32).toInt = 0 := (by decide); omega)]))
theorem X_row {ro : List (List Int32)} {n d : Nat} {p : xH} {Q : Option Value → xH → Prop} {x : Int32} {xi : Int} {y : Int32} {yi : Int} {w : Int32} {wi : Int} (hx : x.toInt = xi) (hy : y.toInt = yi) (hw : w.toInt = wi)  (k0 : (¬ (0 ≤ xi ∧ xi < 6 ∧ 0 ≤ yi ∧ yi ≤ 4 ∧ wi ≤ 60)) → Q (some (.int (-1))) p) (k1 : (0 ≤ xi) → (xi < 6) → (0 ≤ yi) → (yi ≤ 4) → (wi ≤ 60) → (wi < 0) → Q (some (.int (-14))) p) (k2 : ∀ p1 : xH, ∀ p2 : xH, (0 ≤ xi) → (xi < 6) → (0 ≤ yi) → (yi ≤ 4) → (0 ≤ wi) → (wi ≤ 60) → (p1 = wV (wV (wV p 61 xi.toNat (.int 2)) 63 xi.toNat (.int y)) 64 xi.toNat (.int w)) → (hOn 65 (fun j => if 60 * xi.toNat ≤ j ∧ j < 60 * xi.toNat + 60 then .long 0 else rV p1 65 j) p1 p2) → Q (some (.int (1))) p2) : hP ro n d (11, 4, 1, 1, k166) 0 (lv_args 0 [.ref 0, .int x, .int y, .int w]) [] p Q := by
  subst hx
  subst hy
  subst hw
  refine hp_id (ls := [(0, .ref 0), (1, .int x), (2, .int y), (3, .int w)]) ?_
  refine hp_s (pc' := 1) (st' := [.ref 0]) rfl rfl rfl ?_
  refine hp_getr (k := 13) (w := .ref 60) (pc' := 4) rfl rfl rfl rfl rfl ?_
  refine hp_s (pc' := 5) (st' := [.int x, .ref 60]) rfl rfl rfl ?_
  refine hp_cv (r := 60) (o := 6) (kd := 1) (as := [.int x]) (rest := []) (pc' := 8) rfl rfl rfl rfl rfl rfl rfl rfl rfl (fun d1 => ?_)
  refine s_isShelf (xi := x.toInt) rfl ?_ ?_
  ·
    intro h1 h2
    refine hp_id (st := [.int 1]) ?_
    refine hp_go (pc' := 11) rfl rfl rfl ?_
    refine hp_s (pc' := 12) (st' := [.ref 0]) rfl rfl rfl ?_
    refine hp_getr (k := 13) (w := .ref 60) (pc' := 15) rfl rfl rfl rfl rfl ?_
    refine hp_s (pc' := 16) (st' := [.int y, .ref 60]) rfl rfl rfl ?_
    refine hp_cv (r := 60) (o := 6) (kd := 1) (as := [.int y]) (rest := []) (pc' := 19) rfl rfl rfl rfl rfl rfl rfl rfl rfl (fun d2 => ?_)
    refine s_isSort (xi := y.toInt) rfl ?_ ?_
    ·
      intro h3 h4
      refine hp_id (st := [.int 1]) ?_
      refine hp_go (pc' := 22) rfl rfl rfl ?_
      refine hp_s (pc' := 23) (st' := [.int w]) rfl rfl rfl ?_
      refine hp_s (pc' := 25) (st' := [.int 60, .int w]) rfl rfl rfl ?_
      refine hp_ic (pc' := 28) (t := 30) (a := w.toInt) (b := 60) rfl rfl rfl rfl (by decide) (fun (h5 : w.toInt ≤ 60) => ?_) (fun (h6 : ¬ (w.toInt ≤ 60)) => ?_)
      ·
        refine hp_s (pc' := 31) (st' := [.int w]) rfl rfl rfl ?_
        refine hp_if (pc' := 34) (t := 37) (a := w.toInt) rfl rfl rfl rfl (fun (h7 : 0 ≤ w.toInt) => ?_) (fun (h8 : ¬ (0 ≤ w.toInt)) => ?_)
        ·
          refine hp_s (pc' := 38) (st' := [.ref 0]) rfl rfl rfl ?_
          refine hp_getr (k := 13) (w := .ref 60) (pc' := 41) rfl rfl rfl rfl rfl ?_
          refine hp_s (pc' := 42) (st' := [.int x, .ref 60]) rfl rfl rfl ?_
          refine hp_s (pc' := 43) (st' := [.int y, .int x, .ref 60]) rfl rfl rfl ?_
          refine hp_s (pc' := 44) (st' := [.int w, .int y, .int x, .ref 60]) rfl rfl rfl ?_
          refine hp_cv (r := 60) (o := 6) (kd := 1) (as := [.int x, .int y, .int w]) (rest := []) (pc' := 47) rfl rfl rfl rfl rfl rfl rfl rfl rfl (fun d3 => ?_)
          refine s_holdRow (xi := x.toInt) rfl (yi := y.toInt) rfl (wi := w.toInt) rfl ?_
          intro p1 p2 h9 h10 h11 h12
          refine hp_id (st := [.int 1]) ?_
          refine hp_ri rfl rfl ?_
          first | (exact k2 _ _ (by first | assumption | omega) (by first | assumption | omega) (by first | assumption | omega) (by first | assumption | omega) (by first | assumption | omega) (by first | assumption | omega) (by first | assumption | omega) (by first | assumption | omega)) | (exfalso; omega)
        ·
          refine hp_s (pc' := 36) (st' := [.int (-14)]) rfl rfl rfl ?_
          refine hp_ri rfl rfl ?_
          first | (exact k1 (by first | assumption | omega) (by first | assumption | omega) (by first | assumption | omega) (by first | assumption | omega) (by first | assumption | omega) (by first | assumption | omega)) | (exfalso; omega)
      ·
        refine hp_s (pc' := 29) (st' := [.int (-1)]) rfl rfl rfl ?_
        refine hp_ri rfl rfl ?_
        first | (exact k0 (by first | assumption | omega)) | (exfalso; omega)
    ·
      intro h13
      refine hp_id (st := [.int 0]) ?_
      refine hp_go (pc' := 28) rfl rfl rfl ?_
      refine hp_s (pc' := 29) (st' := [.int (-1)]) rfl rfl rfl ?_
      refine hp_ri rfl rfl ?_
      first | (exact k0 (by first | assumption | omega)) | (exfalso; omega)
  ·
    intro h14
    refine hp_id (st := [.int 0]) ?_
    refine hp_go (pc' := 28) rfl rfl rfl ?_
    refine hp_s (pc' := 29) (st' := [.int (-1)]) rfl rfl rfl ?_
    refine hp_ri rfl rfl ?_
    first | (exact k0 (by first | assumption | omega)) | (exfalso; omega)
theorem lp_265 {ro : List (List Int32)} {d : Nat} {Q : Option Value → xH → Prop} {x y w : Int32} {p0 : xH} (hx0 : 0 ≤ x.toInt) (hx6 : x.toInt < 6) (K : ∀ p2, hOn 99 (fun j => if 60 * x.toInt.toNat ≤ j ∧ j < 60 * x.toInt.toNat + 60 then .long 0 else rV p0 99 j) p0 p2 → Q (some (.int 1)) p2) : ∀ (n : Nat) (k : Int32) (p : xH), (60 * x.toInt ≤ k.toInt) → (k.toInt ≤ 60 * x.toInt + 60) → (hOn 99 (fun j => if 60 * x.toInt.toNat ≤ j ∧ j < k.toInt.toNat then .long 0 else rV p0 99 j) p0 p) → hP ro n d (12, 5, 1, 1, k265) 57 [(4, .int k), (0, .ref 66), (1, .int x), (2, .int y), (3, .int w)] [] p Q := by
  intro n
  induction n with
  | zero => intros; exact hp_0
  | succ n ih =>
    intro k p h1 h2 hO
    refine hp_s1 (pc' := 59) (st' := [.int k]) rfl rfl rfl ?_
    refine hp_s (pc' := 61) (st' := [.int 60, .int k]) rfl rfl rfl ?_
    refine hp_s (pc' := 62) (st' := [.int x, .int 60, .int k]) rfl rfl rfl ?_
    refine hp_z (pc' := 63) (e := 60 * x) (st' := [.int k]) rfl rfl rfl ?_
    intro z1 hz1
    have ez1 := i_mul hz1 (show (60 : Int32).toInt = 60 from by decide) (show x.toInt = x.toInt from rfl)
    refine hp_s (pc' := 65) (st' := [.int 60, .int z1, .int k]) rfl rfl rfl ?_
    refine hp_z (pc' := 66) (e := z1 + 60) (st' := [.int k]) rfl rfl rfl ?_
    intro z2 hz2
    have ez2 := i_add hz2 (show z1.toInt = z1.toInt from rfl) (show (60 : Int32).toInt = 60 from by decide)
    refine hp_ic (pc' := 69) (t := 83) (a := k.toInt) (b := z2.toInt) rfl rfl rfl rfl rfl (fun (h1 : z2.toInt ≤ k.toInt) => ?_) (fun (h2 : ¬ (z2.toInt ≤ k.toInt)) => ?_)
    ·
      refine hp_s (pc' := 84) (st' := [.int 1]) rfl rfl rfl ?_
      refine hp_ri rfl rfl ?_
      exact K _ (hO.eq (fun j => by rw [show k.toInt.toNat = 60 * x.toInt.toNat + 60 by omega]))
    ·
      refine hp_s (pc' := 70) (st' := [.ref 66]) rfl rfl rfl ?_
      refine hp_getr (k := 52) (w := .ref 99) (pc' := 73) rfl rfl rfl rfl rfl ?_
      refine hp_s (pc' := 75) (st' := [.int k, .ref 99]) rfl rfl rfl ?_
      refine hp_s (pc' := 76) (st' := [.long 0, .int k, .ref 99]) rfl rfl rfl ?_
      refine hp_stl rfl rfl rfl ?_
      intro p1 wp1 (p1a : 0 ≤ k.toInt) (p1b : k.toInt < 360) ep1
      refine hp_inc (L := fun z => [(4, .int z), (0, .ref 66), (1, .int x), (2, .int y), (3, .int w)]) (pc' := 80) rfl rfl rfl (fun _ => rfl) rfl ?_
      intro z3 hz3
      have ez3 := i_add hz3 (show k.toInt = k.toInt from rfl) (show (Int32.ofInt 1).toInt = 1 from by decide)
      refine hp_go (pc' := 57) rfl rfl rfl ?_
      refine ih _ _ (by omega) (by omega) ?_
      rw [ep1]
      exact (hO.w wp1 (by show _ < 360; omega)).eq (fun j => if_fill (by omega) (by omega) (by omega))
theorem M_row {ro : List (List Int32)} {n d : Nat} {p : xH} {Q : Option Value → xH → Prop} {x : Int32} {xi : Int} {y : Int32} {yi : Int} {w : Int32} {wi : Int} (hx : x.toInt = xi) (hy : y.toInt = yi) (hw : w.toInt = wi)  (k0 : (¬ (0 ≤ xi ∧ xi < 6 ∧ 0 ≤ yi ∧ yi ≤ 4 ∧ wi ≤ 60)) → Q (some (.int (-1))) p) (k1 : (0 ≤ xi) → (xi < 6) → (0 ≤ yi) → (yi ≤ 4) → (wi ≤ 60) → (wi < 0) → Q (some (.int (-14))) p) (k2 : ∀ p1 : xH, ∀ p2 : xH, ∀ u : Int32, (0 ≤ xi) → (xi < 6) → (0 ≤ yi) → (yi ≤ 4) → (0 ≤ wi) → (wi ≤ 60) → (u.toInt = 50 + yi) → (p1 = wV (wV p 97 xi.toNat (.int u)) 98 xi.toNat (.int w)) → (hOn 99 (fun j => if 60 * xi.toNat ≤ j ∧ j < 60 * xi.toNat + 60 then .long 0 else rV p1 99 j) p1 p2) → Q (some (.int (1))) p2) : hP ro n d (12, 5, 1, 1, k265) 0 (lv_args 0 [.ref 66, .int x, .int y, .int w]) [] p Q := by
  subst hx
  subst hy
  subst hw
  refine hp_id (ls := [(0, .ref 66), (1, .int x), (2, .int y), (3, .int w)]) ?_
  refine hp_s (pc' := 1) (st' := [.int x]) rfl rfl rfl ?_
  refine hp_cs (kd := 0) (as := [.int x]) (rest := []) (pc' := 4) rfl rfl rfl rfl rfl rfl rfl (fun d1 => ?_)
  refine s_isShelfM (xi := x.toInt) rfl ?_ ?_
  ·
    intro h1 h2
    refine hp_id (st := [.int 1]) ?_
    refine hp_go (pc' := 7) rfl rfl rfl ?_
    refine hp_s (pc' := 8) (st' := [.int y]) rfl rfl rfl ?_
    refine hp_i2l (pc' := 9) rfl rfl ?_
    intro z1 hz1 ez1
    refine hp_s (pc' := 10) (st' := [.long 0, .long z1]) rfl rfl rfl ?_
    refine hp_s (pc' := 13) (st' := [.long 4, .long 0, .long z1]) rfl rfl rfl ?_
    refine hp_cs (kd := 0) (as := [.long z1, .long 0, .long 4]) (rest := []) (pc' := 16) rfl rfl rfl rfl rfl rfl rfl (fun d2 => ?_)
    refine s_within (vi := y.toInt) ez1 (ai := 0) (by decide) (bi := 4) (by decide) ?_ ?_
    ·
      intro h3 h4
      refine hp_id (st := [.int 1]) ?_
      refine hp_go (pc' := 19) rfl rfl rfl ?_
      refine hp_s (pc' := 20) (st' := [.int w]) rfl rfl rfl ?_
      refine hp_s (pc' := 22) (st' := [.int 60, .int w]) rfl rfl rfl ?_
      refine hp_ic (pc' := 25) (t := 27) (a := w.toInt) (b := 60) rfl rfl rfl rfl (by decide) (fun (h5 : w.toInt ≤ 60) => ?_) (fun (h6 : ¬ (w.toInt ≤ 60)) => ?_)
      ·
        refine hp_s (pc' := 28) (st' := [.int w]) rfl rfl rfl ?_
        refine hp_if (pc' := 31) (t := 34) (a := w.toInt) rfl rfl rfl rfl (fun (h7 : 0 ≤ w.toInt) => ?_) (fun (h8 : ¬ (0 ≤ w.toInt)) => ?_)
        ·
          refine hp_s (pc' := 35) (st' := [.ref 66]) rfl rfl rfl ?_
          refine hp_getr (k := 50) (w := .ref 97) (pc' := 38) rfl rfl rfl rfl rfl ?_
          refine hp_s (pc' := 39) (st' := [.int x, .ref 97]) rfl rfl rfl ?_
          refine hp_s (pc' := 41) (st' := [.int 50, .int x, .ref 97]) rfl rfl rfl ?_
          refine hp_s (pc' := 42) (st' := [.int y, .int 50, .int x, .ref 97]) rfl rfl rfl ?_
          refine hp_z (pc' := 43) (e := 50 + y) (st' := [.int x, .ref 97]) rfl rfl rfl ?_
          intro z2 hz2
          have ez2 := i_add hz2 (show (50 : Int32).toInt = 50 from by decide) (show y.toInt = y.toInt from rfl)
          refine hp_st (t := 100) rfl (.inl rfl) rfl rfl ?_
          intro p1 wp1 (p1a : 0 ≤ x.toInt) (p1b : x.toInt < 6) ep1
          refine hp_s (pc' := 45) (st' := [.ref 66]) rfl rfl rfl ?_
          refine hp_getr (k := 51) (w := .ref 98) (pc' := 48) rfl rfl rfl rfl rfl ?_
          refine hp_s (pc' := 49) (st' := [.int x, .ref 98]) rfl rfl rfl ?_
          refine hp_s (pc' := 50) (st' := [.int w, .int x, .ref 98]) rfl rfl rfl ?_
          refine hp_st (t := 100) rfl (.inl rfl) rfl rfl ?_
          intro p2 wp2 (p2a : 0 ≤ x.toInt) (p2b : x.toInt < 6) ep2
          refine hp_s (pc' := 53) (st' := [.int 60]) rfl rfl rfl ?_
          refine hp_s (pc' := 54) (st' := [.int x, .int 60]) rfl rfl rfl ?_
          refine hp_z (pc' := 55) (e := 60 * x) (st' := []) rfl rfl rfl ?_
          intro z3 hz3
          have ez3 := i_mul hz3 (show (60 : Int32).toInt = 60 from by decide) (show x.toInt = x.toInt from rfl)
          refine hp_s (pc' := 57) (ls' := [(4, .int z3), (0, .ref 66), (1, .int x), (2, .int y), (3, .int w)]) (st' := []) rfl rfl rfl ?_
          exact lp_265 (x := x) (p0 := p2) (by omega) (by omega) (fun p2 h => k2 _ _ z2 (by omega) (by omega) (by omega) (by omega) (by omega) (by omega) (by omega) (by subst_vars; rfl) h) n _ _ (by omega) (by omega) ((hOn.refl 99 _).eq (fun j => by rw [if_neg (by omega)]))
        ·
          refine hp_s (pc' := 33) (st' := [.int (-14)]) rfl rfl rfl ?_
          refine hp_ri rfl rfl ?_
          first | (exact k1 (by first | assumption | omega) (by first | assumption | omega) (by first | assumption | omega) (by first | assumption | omega) (by first | assumption | omega) (by first | assumption | omega)) | (exfalso; omega)
      ·
        refine hp_s (pc' := 26) (st' := [.int (-1)]) rfl rfl rfl ?_
        refine hp_ri rfl rfl ?_
        first | (exact k0 (by first | assumption | omega)) | (exfalso; omega)
    ·
      intro h9
      refine hp_id (st := [.int 0]) ?_
      refine hp_go (pc' := 25) rfl rfl rfl ?_
      refine hp_s (pc' := 26) (st' := [.int (-1)]) rfl rfl rfl ?_
      refine hp_ri rfl rfl ?_
      first | (exact k0 (by first | assumption | omega)) | (exfalso; omega)
  ·
    intro h10
    refine hp_id (st := [.int 0]) ?_
    refine hp_go (pc' := 25) rfl rfl rfl ?_
    refine hp_s (pc' := 26) (st' := [.int (-1)]) rfl rfl rfl ?_
    refine hp_ri rfl rfl ?_
    first | (exact k0 (by first | assumption | omega)) | (exfalso; omega)
