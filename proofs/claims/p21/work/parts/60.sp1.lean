/-! contracts of methods, walked -/
theorem s_isKind {ro : List (List Int32)} {n d : Nat} {p : xH} {Q : Option Value → xH → Prop} {x : Int32} {xi : Int} (hx : x.toInt = xi)  (k0 : (0 ≤ xi) → (xi < 8) → Q (some (.int (1))) p) (k1 : (¬ (0 ≤ xi ∧ xi < 8)) → Q (some (.int (0))) p) : hP ro n d (9, 1, 0, 2, k108) 0 (lv_args 0 [.int x]) [] p Q := by
  subst hx
  refine hp_id (ls := [(0, .int x)]) ?_
  refine hp_s (pc' := 1) (st' := [.int x]) rfl rfl rfl ?_
  refine hp_if (pc' := 4) (t := 14) (a := x.toInt) rfl rfl rfl rfl (fun (h1 : x.toInt < 0) => ?_) (fun (h2 : ¬ (x.toInt < 0)) => ?_)
  ·
    refine hp_s (pc' := 15) (st' := [.int 0]) rfl rfl rfl ?_
    refine hp_rb rfl rfl (fun _ => ?_)
    first | (exact k1 (by first | assumption | omega)) | (exfalso; omega)
  ·
    refine hp_s (pc' := 5) (st' := [.int x]) rfl rfl rfl ?_
    refine hp_s (pc' := 7) (st' := [.int 8, .int x]) rfl rfl rfl ?_
    refine hp_ic (pc' := 10) (t := 14) (a := x.toInt) (b := 8) rfl rfl rfl rfl (by decide) (fun (h3 : 8 ≤ x.toInt) => ?_) (fun (h4 : ¬ (8 ≤ x.toInt)) => ?_)
    ·
      refine hp_s (pc' := 15) (st' := [.int 0]) rfl rfl rfl ?_
      refine hp_rb rfl rfl (fun _ => ?_)
      first | (exact k1 (by first | assumption | omega)) | (exfalso; omega)
    ·
      refine hp_s (pc' := 11) (st' := [.int 1]) rfl rfl rfl ?_
      refine hp_go (pc' := 15) rfl rfl rfl ?_
      refine hp_rb rfl rfl (fun _ => ?_)
      first | (exact k0 (by first | assumption | omega) (by first | assumption | omega)) | (exfalso; omega)
theorem s_hasT {ro : List (List Int32)} {n d : Nat} {p : xH} {Q : Option Value → xH → Prop} {x : Int32} {xi : Int} (hx : x.toInt = xi)  (k0 : (0 ≤ xi) → (xi < (rI p 57 1).toInt) → Q (some (.int (1))) p) (k1 : (¬ (0 ≤ xi ∧ xi < (rI p 57 1).toInt)) → Q (some (.int (0))) p) : hP ro n d (9, 2, 1, 2, k110) 0 (lv_args 0 [.ref 57, .int x]) [] p Q := by
  subst hx
  refine hp_id (ls := [(0, .ref 57), (1, .int x)]) ?_
  refine hp_s (pc' := 1) (st' := [.int x]) rfl rfl rfl ?_
  refine hp_if (pc' := 4) (t := 16) (a := x.toInt) rfl rfl rfl rfl (fun (h1 : x.toInt < 0) => ?_) (fun (h2 : ¬ (x.toInt < 0)) => ?_)
  ·
    refine hp_s (pc' := 17) (st' := [.int 0]) rfl rfl rfl ?_
    refine hp_rb rfl rfl (fun _ => ?_)
    first | (exact k1 (by first | assumption | omega)) | (exfalso; omega)
  ·
    refine hp_s (pc' := 5) (st' := [.int x]) rfl rfl rfl ?_
    refine hp_s (pc' := 6) (st' := [.ref 57, .int x]) rfl rfl rfl ?_
    refine hp_get (k := 1) (pc' := 9) (v := (rI p 57 1)) rfl rfl rfl rfl rfl rfl ?_
    refine hp_ic (pc' := 12) (t := 16) (a := x.toInt) (b := (rI p 57 1).toInt) rfl rfl rfl rfl rfl (fun (h3 : (rI p 57 1).toInt ≤ x.toInt) => ?_) (fun (h4 : ¬ ((rI p 57 1).toInt ≤ x.toInt)) => ?_)
    ·
      refine hp_s (pc' := 17) (st' := [.int 0]) rfl rfl rfl ?_
      refine hp_rb rfl rfl (fun _ => ?_)
      first | (exact k1 (by first | assumption | omega)) | (exfalso; omega)
    ·
      refine hp_s (pc' := 13) (st' := [.int 1]) rfl rfl rfl ?_
      refine hp_go (pc' := 17) rfl rfl rfl ?_
      refine hp_rb rfl rfl (fun _ => ?_)
      first | (exact k0 (by first | assumption | omega) (by first | assumption | omega)) | (exfalso; omega)
theorem s_addT {ro : List (List Int32)} {n d : Nat} {p : xH} {Q : Option Value → xH → Prop} {x : Int32} {xi : Int} (hx : x.toInt = xi)  (k0 : (50 ≤ (rI p 57 1).toInt) → Q (some (.int (-3))) p) (k1 : ∀ z : Int32, ∀ p2 : xH, p2 = (wV (wV p 58 ((rI p 57 1).toInt.toNat) (.int x)) 57 1 (.int (rI p 57 1 + 1))) → (0 ≤ (rI p 57 1).toInt) → ((rI p 57 1).toInt < 50) → (z.toInt = (rI p 57 1).toInt) → Q (some (.int z)) p2) : hP ro n d (9, 2, 1, 1, k111) 0 (lv_args 0 [.ref 57, .int x]) [] p Q := by
  subst hx
  refine hp_id (ls := [(0, .ref 57), (1, .int x)]) ?_
  refine hp_s (pc' := 1) (st' := [.ref 57]) rfl rfl rfl ?_
  refine hp_get (k := 1) (pc' := 4) (v := (rI p 57 1)) rfl rfl rfl rfl rfl rfl ?_
  refine hp_s (pc' := 6) (st' := [.int 50, .int (rI p 57 1)]) rfl rfl rfl ?_
  refine hp_ic (pc' := 9) (t := 12) (a := (rI p 57 1).toInt) (b := 50) rfl rfl rfl rfl (by decide) (fun (h1 : (rI p 57 1).toInt < 50) => ?_) (fun (h2 : ¬ ((rI p 57 1).toInt < 50)) => ?_)
  ·
    refine hp_s (pc' := 13) (st' := [.ref 57]) rfl rfl rfl ?_
    refine hp_getr (k := 0) (w := .ref 58) (pc' := 16) rfl rfl rfl rfl rfl ?_
    refine hp_s (pc' := 17) (st' := [.ref 57, .ref 58]) rfl rfl rfl ?_
    refine hp_get (k := 1) (pc' := 20) (v := (rI p 57 1)) rfl rfl rfl rfl rfl rfl ?_
    refine hp_s (pc' := 21) (st' := [.int x, .int (rI p 57 1), .ref 58]) rfl rfl rfl ?_
    refine hp_st (t := 100) rfl (.inl rfl) rfl rfl ?_
    intro p1 wp1 (p1a : 0 ≤ (rI p 57 1).toInt) (p1b : (rI p 57 1).toInt < 50) ep1
    refine hp_s (pc' := 23) (st' := [.ref 57]) rfl rfl rfl ?_
    refine hp_s (pc' := 24) (st' := [.ref 57, .ref 57]) rfl rfl rfl ?_
    refine hp_get (k := 1) (pc' := 27) (v := (rI p 57 1)) rfl rfl rfl rfl rfl (by rw [ep1, rI_o (by decide)]) ?_
    refine hp_s (pc' := 28) (st' := [.int 1, .int (rI p 57 1), .ref 57]) rfl rfl rfl ?_
    refine hp_z (pc' := 29) (e := (rI p 57 1) + 1) (st' := [.ref 57]) rfl rfl rfl ?_
    intro z1 hz1
    have ez1 := i_add hz1 (show (rI p 57 1).toInt = (rI p 57 1).toInt from rfl) (show (1 : Int32).toInt = 1 from by decide)
    refine hp_put (k := 1) (pc' := 32) rfl rfl rfl rfl rfl ?_
    intro p2 wp2 ep2
    refine hp_s (pc' := 33) (st' := [.ref 57]) rfl rfl rfl ?_
    refine hp_get (k := 1) (pc' := 36) (v := z1) rfl rfl rfl rfl rfl (by rw [ep2, rI_eq wp2 (by decide)]) ?_
    refine hp_s (pc' := 37) (st' := [.int 1, .int z1]) rfl rfl rfl ?_
    refine hp_z (pc' := 38) (e := z1 - 1) (st' := []) rfl rfl rfl ?_
    intro z2 hz2
    have ez2 := i_sub hz2 (show z1.toInt = z1.toInt from rfl) (show (1 : Int32).toInt = 1 from by decide)
    refine hp_ri rfl rfl ?_
    first | (exact k0 (by first | assumption | omega)) | (exact k1 _ _ (by subst_vars; rfl) (by first | assumption | omega) (by first | assumption | omega) (by first | assumption | omega)) | (exfalso; omega)
  ·
    refine hp_s (pc' := 11) (st' := [.int (-3)]) rfl rfl rfl ?_
    refine hp_ri rfl rfl ?_
    first | (exact k0 (by first | assumption | omega)) | (exact k1 _ _ (by subst_vars; rfl) (by first | assumption | omega) (by first | assumption | omega) (by first | assumption | omega)) | (exfalso; omega)
theorem X_body {ro : List (List Int32)} {n d : Nat} {p : xH} {Q : Option Value → xH → Prop} {x : Int32} {xi : Int} (hx : x.toInt = xi)  (k0 : (¬ (0 ≤ xi ∧ xi < 8)) → Q (some (.int (-1))) p) (k1 : (0 ≤ xi) → (xi < 8) → (50 ≤ (rI p 57 1).toInt) → Q (some (.int (-3))) p) (k2 : ∀ z : Int32, ∀ p2 : xH, p2 = (wV (wV p 58 ((rI p 57 1).toInt.toNat) (.int x)) 57 1 (.int (rI p 57 1 + 1))) → (0 ≤ xi) → (xi < 8) → (0 ≤ (rI p 57 1).toInt) → ((rI p 57 1).toInt < 50) → (z.toInt = (rI p 57 1).toInt) → Q (some (.int z)) p2) : hP ro n d (11, 2, 1, 1, k162) 0 (lv_args 0 [.ref 0, .int x]) [] p Q := by
  subst hx
  refine hp_id (ls := [(0, .ref 0), (1, .int x)]) ?_
  refine hp_s (pc' := 1) (st' := [.int x]) rfl rfl rfl ?_
  refine hp_cs (kd := 0) (as := [.int x]) (rest := []) (pc' := 4) rfl rfl rfl rfl rfl rfl rfl (fun d1 => ?_)
  refine s_isKind (xi := x.toInt) rfl ?_ ?_
  ·
    intro h1 h2
    refine hp_id (st := [.int 1]) ?_
    refine hp_go (pc' := 9) rfl rfl rfl ?_
    refine hp_s (pc' := 10) (st' := [.ref 0]) rfl rfl rfl ?_
    refine hp_getr (k := 12) (w := .ref 57) (pc' := 13) rfl rfl rfl rfl rfl ?_
    refine hp_s (pc' := 14) (st' := [.int x, .ref 57]) rfl rfl rfl ?_
    refine hp_cv (r := 57) (o := 9) (kd := 1) (as := [.int x]) (rest := []) (pc' := 17) rfl rfl rfl rfl rfl rfl rfl rfl rfl (fun d2 => ?_)
    refine s_addT (xi := x.toInt) rfl ?_ ?_
    ·
      intro h3
      refine hp_id (st := [.int (-3)]) ?_
      refine hp_ri rfl rfl ?_
      first | (exact k1 (by first | assumption | omega) (by first | assumption | omega) (by first | assumption | omega)) | (exact k2 _ _ (by subst_vars; rfl) (by first | assumption | omega) (by first | assumption | omega) (by first | assumption | omega) (by first | assumption | omega) (by first | assumption | omega)) | (exfalso; omega)
    ·
      intro y1 p1 ep1 h4 h5 h6
      refine hp_id (st := [.int y1]) ?_
      refine hp_ri rfl rfl ?_
      first | (exact k0 (by first | assumption | omega)) | (exact k1 (by first | assumption | omega) (by first | assumption | omega) (by first | assumption | omega)) | (exact k2 _ _ (by subst_vars; rfl) (by first | assumption | omega) (by first | assumption | omega) (by first | assumption | omega) (by first | assumption | omega) (by first | assumption | omega)) | (exfalso; omega)
  ·
    intro h7
    refine hp_id (st := [.int 0]) ?_
    refine hp_go (pc' := 7) rfl rfl rfl ?_
    refine hp_s (pc' := 8) (st' := [.int (-1)]) rfl rfl rfl ?_
    refine hp_ri rfl rfl ?_
    first | (exact k0 (by first | assumption | omega)) | (exact k2 _ _ (by subst_vars; rfl) (by first | assumption | omega) (by first | assumption | omega) (by first | assumption | omega) (by first | assumption | omega) (by first | assumption | omega)) | (exfalso; omega)
theorem s_within {ro : List (List Int32)} {n d : Nat} {p : xH} {Q : Option Value → xH → Prop} {v : Int64} {vi : Int} {a : Int64} {ai : Int} {b : Int64} {bi : Int} (hv : v.toInt = vi) (ha : a.toInt = ai) (hb : b.toInt = bi)  (k0 : (ai ≤ vi) → (vi ≤ bi) → Q (some (.int (1))) p) (k1 : (¬ (ai ≤ vi ∧ vi ≤ bi)) → Q (some (.int (0))) p) : hP ro n d (12, 6, 0, 2, k174) 0 (lv_args 0 [.long v, .long a, .long b]) [] p Q := by
  subst hv
  subst ha
  subst hb
  refine hp_id (ls := [(0, .long v), (2, .long a), (4, .long b)]) ?_
  refine hp_s (pc' := 1) (st' := [.long v]) rfl rfl rfl ?_
  refine hp_s (pc' := 2) (st' := [.long a, .long v]) rfl rfl rfl ?_
  refine hp_lc (pc' := 6) (t := 17) (a := v.toInt) (b := a.toInt) rfl rfl rfl rfl rfl rfl (fun (h1 : v.toInt < a.toInt) => ?_) (fun (h2 : ¬ (v.toInt < a.toInt)) => ?_)
  ·
    refine hp_s (pc' := 18) (st' := [.int 0]) rfl rfl rfl ?_
    refine hp_rb rfl rfl (fun _ => ?_)
    first | (exact k1 (by first | assumption | omega)) | (exfalso; omega)
  ·
    refine hp_s (pc' := 7) (st' := [.long v]) rfl rfl rfl ?_
    refine hp_s (pc' := 9) (st' := [.long b, .long v]) rfl rfl rfl ?_
    refine hp_lc (pc' := 13) (t := 17) (a := v.toInt) (b := b.toInt) rfl rfl rfl rfl rfl rfl (fun (h3 : b.toInt < v.toInt) => ?_) (fun (h4 : ¬ (b.toInt < v.toInt)) => ?_)
    ·
      refine hp_s (pc' := 18) (st' := [.int 0]) rfl rfl rfl ?_
      refine hp_rb rfl rfl (fun _ => ?_)
      first | (exact k1 (by first | assumption | omega)) | (exfalso; omega)
    ·
      refine hp_s (pc' := 14) (st' := [.int 1]) rfl rfl rfl ?_
      refine hp_go (pc' := 18) rfl rfl rfl ?_
      refine hp_rb rfl rfl (fun _ => ?_)
      first | (exact k0 (by first | assumption | omega) (by first | assumption | omega)) | (exfalso; omega)
theorem M_body {ro : List (List Int32)} {n d : Nat} {p : xH} {Q : Option Value → xH → Prop} {x : Int32} {xi : Int} (hx : x.toInt = xi)  (k0 : (¬ (0 ≤ xi ∧ xi < 8)) → Q (some (.int (-1))) p) (k1 : (0 ≤ xi) → (xi < 8) → ((rI p 66 44).toInt = 50) → Q (some (.int (-3))) p) (k2 : ∀ z : Int32, ∀ p2 : xH, p2 = (wV (wV p 95 ((rI p 66 44).toInt.toNat) (.int x)) 66 44 (.int (rI p 66 44 + 1))) → (0 ≤ xi) → (xi < 8) → (0 ≤ (rI p 66 44).toInt) → ((rI p 66 44).toInt < 50) → (z.toInt = (rI p 66 44).toInt) → Q (some (.int z)) p2) : hP ro n d (12, 2, 1, 1, k254) 0 (lv_args 0 [.ref 66, .int x]) [] p Q := by
  subst hx
  refine hp_id (ls := [(0, .ref 66), (1, .int x)]) ?_
  refine hp_s (pc' := 1) (st' := [.int x]) rfl rfl rfl ?_
  refine hp_i2l (pc' := 2) rfl rfl ?_
  intro z1 hz1 ez1
  refine hp_s (pc' := 3) (st' := [.long 0, .long z1]) rfl rfl rfl ?_
  refine hp_s (pc' := 6) (st' := [.long 7, .long 0, .long z1]) rfl rfl rfl ?_
  refine hp_cs (kd := 0) (as := [.long z1, .long 0, .long 7]) (rest := []) (pc' := 9) rfl rfl rfl rfl rfl rfl rfl (fun d1 => ?_)
  refine s_within (vi := x.toInt) ez1 (ai := 0) (by decide) (bi := 7) (by decide) ?_ ?_
  ·
    intro h1 h2
    refine hp_id (st := [.int 1]) ?_
    refine hp_go (pc' := 14) rfl rfl rfl ?_
    refine hp_s (pc' := 15) (st' := [.ref 66]) rfl rfl rfl ?_
    refine hp_get (k := 44) (pc' := 18) (v := (rI p 66 44)) rfl rfl rfl rfl rfl rfl ?_
    refine hp_s (pc' := 20) (st' := [.int 50, .int (rI p 66 44)]) rfl rfl rfl ?_
    refine hp_ic (pc' := 23) (t := 26) (a := (rI p 66 44).toInt) (b := 50) rfl rfl rfl rfl (by decide) (fun (h3 : (rI p 66 44).toInt ≠ 50) => ?_) (fun (h4 : ¬ ((rI p 66 44).toInt ≠ 50)) => ?_)
    ·
      refine hp_s (pc' := 27) (st' := [.ref 66]) rfl rfl rfl ?_
      refine hp_getr (k := 45) (w := .ref 95) (pc' := 30) rfl rfl rfl rfl rfl ?_
      refine hp_s (pc' := 31) (st' := [.ref 66, .ref 95]) rfl rfl rfl ?_
      refine hp_get (k := 44) (pc' := 34) (v := (rI p 66 44)) rfl rfl rfl rfl rfl rfl ?_
      refine hp_s (pc' := 35) (st' := [.int x, .int (rI p 66 44), .ref 95]) rfl rfl rfl ?_
      refine hp_st (t := 100) rfl (.inl rfl) rfl rfl ?_
      intro p1 wp1 (p1a : 0 ≤ (rI p 66 44).toInt) (p1b : (rI p 66 44).toInt < 50) ep1
      refine hp_s (pc' := 37) (st' := [.ref 66]) rfl rfl rfl ?_
      refine hp_s (pc' := 38) (st' := [.ref 66, .ref 66]) rfl rfl rfl ?_
      refine hp_get (k := 44) (pc' := 41) (v := (rI p 66 44)) rfl rfl rfl rfl rfl (by rw [ep1, rI_o (by decide)]) ?_
      refine hp_s (pc' := 42) (st' := [.int 1, .int (rI p 66 44), .ref 66]) rfl rfl rfl ?_
      refine hp_z (pc' := 43) (e := (rI p 66 44) + 1) (st' := [.ref 66]) rfl rfl rfl ?_
      intro z2 hz2
      have ez2 := i_add hz2 (show (rI p 66 44).toInt = (rI p 66 44).toInt from rfl) (show (1 : Int32).toInt = 1 from by decide)
      refine hp_put (k := 44) (pc' := 46) rfl rfl rfl rfl rfl ?_
      intro p2 wp2 ep2
      refine hp_s (pc' := 47) (st' := [.ref 66]) rfl rfl rfl ?_
      refine hp_get (k := 44) (pc' := 50) (v := z2) rfl rfl rfl rfl rfl (by rw [ep2, rI_eq wp2 (by decide)]) ?_
      refine hp_s (pc' := 51) (st' := [.int 1, .int z2]) rfl rfl rfl ?_
      refine hp_z (pc' := 52) (e := z2 - 1) (st' := []) rfl rfl rfl ?_
      intro z3 hz3
      have ez3 := i_sub hz3 (show z2.toInt = z2.toInt from rfl) (show (1 : Int32).toInt = 1 from by decide)
      refine hp_ri rfl rfl ?_
      first | (exact k0 (by first | assumption | omega)) | (exact k1 (by first | assumption | omega) (by first | assumption | omega) (by first | assumption | omega)) | (exact k2 _ _ (by subst_vars; rfl) (by first | assumption | omega) (by first | assumption | omega) (by first | assumption | omega) (by first | assumption | omega) (by first | assumption | omega)) | (exfalso; omega)
    ·
      refine hp_s (pc' := 25) (st' := [.int (-3)]) rfl rfl rfl ?_
      refine hp_ri rfl rfl ?_
      first | (exact k1 (by first | assumption | omega) (by first | assumption | omega) (by first | assumption | omega)) | (exact k2 _ _ (by subst_vars; rfl) (by first | assumption | omega) (by first | assumption | omega) (by first | assumption | omega) (by first | assumption | omega) (by first | assumption | omega)) | (exfalso; omega)
  ·
    intro h5
    refine hp_id (st := [.int 0]) ?_
    refine hp_go (pc' := 12) rfl rfl rfl ?_
    refine hp_s (pc' := 13) (st' := [.int (-1)]) rfl rfl rfl ?_
    refine hp_ri rfl rfl ?_
    first | (exact k0 (by first | assumption | omega)) | (exact k2 _ _ (by subst_vars; rfl) (by first | assumption | omega) (by first | assumption | omega) (by first | assumption | omega) (by first | assumption | omega) (by first | assumption | omega)) | (exfalso; omega)
theorem s_isShelfM {ro : List (List Int32)} {n d : Nat} {p : xH} {Q : Option Value → xH → Prop} {x : Int32} {xi : Int} (hx : x.toInt = xi)  (k0 : (0 ≤ xi) → (xi < 6) → Q (some (.int (1))) p) (k1 : (¬ (0 ≤ xi ∧ xi < 6)) → Q (some (.int (0))) p) : hP ro n d (12, 1, 0, 2, k263) 0 (lv_args 0 [.int x]) [] p Q := by
  subst hx
  refine hp_id (ls := [(0, .int x)]) ?_
  refine hp_s (pc' := 1) (st' := [.int x]) rfl rfl rfl ?_
  refine hp_i2l (pc' := 2) rfl rfl ?_
  intro z1 hz1 ez1
  refine hp_s (pc' := 3) (st' := [.long 0, .long z1]) rfl rfl rfl ?_
  refine hp_s (pc' := 6) (st' := [.long 5, .long 0, .long z1]) rfl rfl rfl ?_
  refine hp_cs (kd := 0) (as := [.long z1, .long 0, .long 5]) (rest := []) (pc' := 9) rfl rfl rfl rfl rfl rfl rfl (fun d1 => ?_)
  refine s_within (vi := x.toInt) ez1 (ai := 0) (by decide) (bi := 5) (by decide) ?_ ?_
  ·
    intro h1 h2
    refine hp_id (st := [.int 1]) ?_
    refine hp_rb rfl rfl (fun _ => ?_)
    first | (exact k0 (by first | assumption | omega) (by first | assumption | omega)) | (exfalso; omega)
  ·
    intro h3
    refine hp_id (st := [.int 0]) ?_
    refine hp_rb rfl rfl (fun _ => ?_)
    first | (exact k1 (by first | assumption | omega)) | (exfalso; omega)
theorem s_isBody {ro : List (List Int32)} {n d : Nat} {p : xH} {Q : Option Value → xH → Prop} {x : Int32} {xi : Int} (hx : x.toInt = xi) (pre0 : 0 ≤ (rI p 66 44).toInt) (k0 : (0 ≤ xi) → (xi < (rI p 66 44).toInt) → Q (some (.int (1))) p) (k1 : (¬ (0 ≤ xi ∧ xi < (rI p 66 44).toInt)) → Q (some (.int (0))) p) : hP ro n d (12, 2, 1, 2, k252) 0 (lv_args 0 [.ref 66, .int x]) [] p Q := by
  subst hx
  refine hp_id (ls := [(0, .ref 66), (1, .int x)]) ?_
  refine hp_s (pc' := 1) (st' := [.int x]) rfl rfl rfl ?_
  refine hp_i2l (pc' := 2) rfl rfl ?_
  intro z1 hz1 ez1
  refine hp_s (pc' := 3) (st' := [.long 0, .long z1]) rfl rfl rfl ?_
  refine hp_s (pc' := 4) (st' := [.ref 66, .long 0, .long z1]) rfl rfl rfl ?_
  refine hp_get (k := 44) (pc' := 7) (v := (rI p 66 44)) rfl rfl rfl rfl rfl rfl ?_
  refine hp_s (pc' := 8) (st' := [.int 1, .int (rI p 66 44), .long 0, .long z1]) rfl rfl rfl ?_
  refine hp_z (pc' := 9) (e := (rI p 66 44) - 1) (st' := [.long 0, .long z1]) rfl rfl rfl ?_
  intro z2 hz2
  have ez2 := i_sub hz2 (show (rI p 66 44).toInt = (rI p 66 44).toInt from rfl) (show (1 : Int32).toInt = 1 from by decide)
  refine hp_i2l (pc' := 10) rfl rfl ?_
  intro z3 hz3 ez3
  refine hp_cs (kd := 0) (as := [.long z1, .long 0, .long z3]) (rest := []) (pc' := 13) rfl rfl rfl rfl rfl rfl rfl (fun d1 => ?_)
  refine s_within (vi := x.toInt) ez1 (ai := 0) (by decide) (bi := z2.toInt) ez3 ?_ ?_
  ·
    intro h1 h2
    refine hp_id (st := [.int 1]) ?_
    refine hp_rb rfl rfl (fun _ => ?_)
    first | (exact k0 (by first | assumption | omega) (by first | assumption | omega)) | (exfalso; omega)
  ·
    intro h3
    refine hp_id (st := [.int 0]) ?_
    refine hp_rb rfl rfl (fun _ => ?_)
    first | (exact k1 (by first | assumption | omega)) | (exfalso; omega)
theorem s_isShelf {ro : List (List Int32)} {n d : Nat} {p : xH} {Q : Option Value → xH → Prop} {x : Int32} {xi : Int} (hx : x.toInt = xi)  (k0 : (0 ≤ xi) → (xi < 6) → Q (some (.int (1))) p) (k1 : (¬ (0 ≤ xi ∧ xi < 6)) → Q (some (.int (0))) p) : hP ro n d (6, 2, 1, 2, k66) 0 (lv_args 0 [.ref 60, .int x]) [] p Q := by
  subst hx
  refine hp_id (ls := [(0, .ref 60), (1, .int x)]) ?_
  refine hp_s (pc' := 1) (st' := [.int x]) rfl rfl rfl ?_
  refine hp_if (pc' := 4) (t := 14) (a := x.toInt) rfl rfl rfl rfl (fun (h1 : x.toInt < 0) => ?_) (fun (h2 : ¬ (x.toInt < 0)) => ?_)
  ·
    refine hp_s (pc' := 15) (st' := [.int 0]) rfl rfl rfl ?_
    refine hp_rb rfl rfl (fun _ => ?_)
    first | (exact k1 (by first | assumption | omega)) | (exfalso; omega)
  ·
    refine hp_s (pc' := 5) (st' := [.int x]) rfl rfl rfl ?_
    refine hp_s (pc' := 7) (st' := [.int 6, .int x]) rfl rfl rfl ?_
    refine hp_ic (pc' := 10) (t := 14) (a := x.toInt) (b := 6) rfl rfl rfl rfl (by decide) (fun (h3 : 6 ≤ x.toInt) => ?_) (fun (h4 : ¬ (6 ≤ x.toInt)) => ?_)
    ·
      refine hp_s (pc' := 15) (st' := [.int 0]) rfl rfl rfl ?_
      refine hp_rb rfl rfl (fun _ => ?_)
      first | (exact k1 (by first | assumption | omega)) | (exfalso; omega)
    ·
      refine hp_s (pc' := 11) (st' := [.int 1]) rfl rfl rfl ?_
      refine hp_go (pc' := 15) rfl rfl rfl ?_
      refine hp_rb rfl rfl (fun _ => ?_)
      first | (exact k0 (by first | assumption | omega) (by first | assumption | omega)) | (exfalso; omega)
theorem s_holdTwin {ro : List (List Int32)} {n d : Nat} {p : xH} {Q : Option Value → xH → Prop} {x : Int32} {xi : Int} {y : Int32} {yi : Int} (hx : x.toInt = xi) (hy : y.toInt = yi)  (k0 : ∀ p2 : xH, p2 = (wV (wV p 61 xi.toNat (.int 0)) 62 xi.toNat (.int y)) → (0 ≤ xi) → (xi < 6) → (yi = -1) → Q (some (.int (1))) p2) (k1 : ∀ p2 : xH, p2 = (wV (wV p 61 xi.toNat (.int 1)) 62 xi.toNat (.int y)) → (0 ≤ xi) → (xi < 6) → (yi ≠ -1) → Q (some (.int (1))) p2) : hP ro n d (6, 3, 1, 1, k72) 0 (lv_args 0 [.ref 60, .int x, .int y]) [] p Q := by
  subst hx
  subst hy
  refine hp_id (ls := [(0, .ref 60), (1, .int x), (2, .int y)]) ?_
  refine hp_s (pc' := 1) (st' := [.ref 60]) rfl rfl rfl ?_
  refine hp_getr (k := 0) (w := .ref 61) (pc' := 4) rfl rfl rfl rfl rfl ?_
  refine hp_s (pc' := 5) (st' := [.int x, .ref 61]) rfl rfl rfl ?_
  refine hp_s (pc' := 6) (st' := [.int y, .int x, .ref 61]) rfl rfl rfl ?_
  refine hp_s (pc' := 7) (st' := [.int (-1), .int y, .int x, .ref 61]) rfl rfl rfl ?_
  refine hp_ic (pc' := 10) (t := 14) (a := y.toInt) (b := (-1)) rfl rfl rfl rfl (by decide) (fun (h1 : y.toInt ≠ (-1)) => ?_) (fun (h2 : ¬ (y.toInt ≠ (-1))) => ?_)
  ·
    refine hp_s (pc' := 15) (st' := [.int 1, .int x, .ref 61]) rfl rfl rfl ?_
    refine hp_st (t := 100) rfl (.inl rfl) rfl rfl ?_
    intro p1 wp1 (p1a : 0 ≤ x.toInt) (p1b : x.toInt < 6) ep1
    refine hp_s (pc' := 17) (st' := [.ref 60]) rfl rfl rfl ?_
    refine hp_getr (k := 1) (w := .ref 62) (pc' := 20) rfl rfl rfl rfl rfl ?_
    refine hp_s (pc' := 21) (st' := [.int x, .ref 62]) rfl rfl rfl ?_
    refine hp_s (pc' := 22) (st' := [.int y, .int x, .ref 62]) rfl rfl rfl ?_
    refine hp_st (t := 100) rfl (.inl rfl) rfl rfl ?_
    intro p2 wp2 (p2a : 0 ≤ x.toInt) (p2b : x.toInt < 6) ep2
    refine hp_s (pc' := 24) (st' := [.int 1]) rfl rfl rfl ?_
    refine hp_ri rfl rfl ?_
    first | (exact k0 _ (by subst_vars; rfl) (by first | assumption | omega) (by first | assumption | omega) (by first | assumption | omega)) | (exact k1 _ (by subst_vars; rfl) (by first | assumption | omega) (by first | assumption | omega) (by first | assumption | omega)) | (exfalso; omega)
  ·
    refine hp_s (pc' := 11) (st' := [.int 0, .int x, .ref 61]) rfl rfl rfl ?_
    refine hp_go (pc' := 15) rfl rfl rfl ?_
    refine hp_st (t := 100) rfl (.inl rfl) rfl rfl ?_
    intro p3 wp3 (p3a : 0 ≤ x.toInt) (p3b : x.toInt < 6) ep3
    refine hp_s (pc' := 17) (st' := [.ref 60]) rfl rfl rfl ?_
    refine hp_getr (k := 1) (w := .ref 62) (pc' := 20) rfl rfl rfl rfl rfl ?_
    refine hp_s (pc' := 21) (st' := [.int x, .ref 62]) rfl rfl rfl ?_
    refine hp_s (pc' := 22) (st' := [.int y, .int x, .ref 62]) rfl rfl rfl ?_
    refine hp_st (t := 100) rfl (.inl rfl) rfl rfl ?_
    intro p4 wp4 (p4a : 0 ≤ x.toInt) (p4b : x.toInt < 6) ep4
    refine hp_s (pc' := 24) (st' := [.int 1]) rfl rfl rfl ?_
    refine hp_ri rfl rfl ?_
    first | (exact k0 _ (by subst_vars; rfl) (by first | assumption | omega) (by first | assumption | omega) (by first | assumption | omega)) | (exact k1 _ (by subst_vars; rfl) (by first | assumption | omega) (by first | assumption | omega) (by first | assumption | omega)) | (exfalso; omega)
theorem X_keep {ro : List (List Int32)} {n d : Nat} {p : xH} {Q : Option Value → xH → Prop} {x : Int32} {xi : Int} {y : Int32} {yi : Int} (hx : x.toInt = xi) (hy : y.toInt = yi)  (k0 : (¬ (0 ≤ xi ∧ xi < 6 ∧ (yi = -1 ∨ 0 ≤ yi ∧ yi < (rI p 57 1).toInt))) → Q (some (.int (-1))) p) (k1 : ∀ p2 : xH, p2 = (wV (wV p 61 xi.toNat (.int 0)) 62 xi.toNat (.int y)) → (0 ≤ xi) → (xi < 6) → (yi = -1) → Q (some (.int (1))) p2) (k2 : ∀ p2 : xH, p2 = (wV (wV p 61 xi.toNat (.int 1)) 62 xi.toNat (.int y)) → (0 ≤ xi) → (xi < 6) → (0 ≤ yi) → (yi < (rI p 57 1).toInt) → Q (some (.int (1))) p2) : hP ro n d (11, 3, 1, 1, k165) 0 (lv_args 0 [.ref 0, .int x, .int y]) [] p Q := by
  subst hx
  subst hy
  refine hp_id (ls := [(0, .ref 0), (1, .int x), (2, .int y)]) ?_
  refine hp_s (pc' := 1) (st' := [.ref 0]) rfl rfl rfl ?_
  refine hp_getr (k := 13) (w := .ref 60) (pc' := 4) rfl rfl rfl rfl rfl ?_
  refine hp_s (pc' := 5) (st' := [.int x, .ref 60]) rfl rfl rfl ?_
  refine hp_cv (r := 60) (o := 6) (kd := 1) (as := [.int x]) (rest := []) (pc' := 8) rfl rfl rfl rfl rfl rfl rfl rfl rfl (fun d1 => ?_)
  refine s_isShelf (xi := x.toInt) rfl ?_ ?_
  ·
    intro h1 h2
    refine hp_id (st := [.int 1]) ?_
    refine hp_go (pc' := 11) rfl rfl rfl ?_
    refine hp_s (pc' := 12) (st' := [.int y]) rfl rfl rfl ?_
    refine hp_s (pc' := 13) (st' := [.int (-1), .int y]) rfl rfl rfl ?_
    refine hp_ic (pc' := 16) (t := 29) (a := y.toInt) (b := (-1)) rfl rfl rfl rfl (by decide) (fun (h3 : y.toInt = (-1)) => ?_) (fun (h4 : ¬ (y.toInt = (-1))) => ?_)
    ·
      refine hp_s (pc' := 30) (st' := [.ref 0]) rfl rfl rfl ?_
      refine hp_getr (k := 13) (w := .ref 60) (pc' := 33) rfl rfl rfl rfl rfl ?_
      refine hp_s (pc' := 34) (st' := [.int x, .ref 60]) rfl rfl rfl ?_
      refine hp_s (pc' := 35) (st' := [.int y, .int x, .ref 60]) rfl rfl rfl ?_
      refine hp_cv (r := 60) (o := 6) (kd := 1) (as := [.int x, .int y]) (rest := []) (pc' := 38) rfl rfl rfl rfl rfl rfl rfl rfl rfl (fun d2 => ?_)
      refine s_holdTwin (xi := x.toInt) rfl (yi := y.toInt) rfl ?_ ?_
      ·
        intro p1 ep1 h5 h6 h7
        refine hp_id (st := [.int 1]) ?_
        refine hp_ri rfl rfl ?_
        first | (exact k1 _ (by subst_vars; rfl) (by first | assumption | omega) (by first | assumption | omega) (by first | assumption | omega)) | (exact k2 _ (by subst_vars; rfl) (by first | assumption | omega) (by first | assumption | omega) (by first | assumption | omega) (by first | assumption | omega)) | (exfalso; omega)
      ·
        intro p2 ep2 h8 h9 h10
        refine hp_id (st := [.int 1]) ?_
        refine hp_ri rfl rfl ?_
        first | (exact k1 _ (by subst_vars; rfl) (by first | assumption | omega) (by first | assumption | omega) (by first | assumption | omega)) | (exact k2 _ (by subst_vars; rfl) (by first | assumption | omega) (by first | assumption | omega) (by first | assumption | omega) (by first | assumption | omega)) | (exfalso; omega)
    ·
      refine hp_s (pc' := 17) (st' := [.ref 0]) rfl rfl rfl ?_
      refine hp_getr (k := 12) (w := .ref 57) (pc' := 20) rfl rfl rfl rfl rfl ?_
      refine hp_s (pc' := 21) (st' := [.int y, .ref 57]) rfl rfl rfl ?_
      refine hp_cv (r := 57) (o := 9) (kd := 1) (as := [.int y]) (rest := []) (pc' := 24) rfl rfl rfl rfl rfl rfl rfl rfl rfl (fun d3 => ?_)
      refine s_hasT (xi := y.toInt) rfl ?_ ?_
      ·
        intro h11 h12
        refine hp_id (st := [.int 1]) ?_
        refine hp_go (pc' := 29) rfl rfl rfl ?_
        refine hp_s (pc' := 30) (st' := [.ref 0]) rfl rfl rfl ?_
        refine hp_getr (k := 13) (w := .ref 60) (pc' := 33) rfl rfl rfl rfl rfl ?_
        refine hp_s (pc' := 34) (st' := [.int x, .ref 60]) rfl rfl rfl ?_
        refine hp_s (pc' := 35) (st' := [.int y, .int x, .ref 60]) rfl rfl rfl ?_
        refine hp_cv (r := 60) (o := 6) (kd := 1) (as := [.int x, .int y]) (rest := []) (pc' := 38) rfl rfl rfl rfl rfl rfl rfl rfl rfl (fun d4 => ?_)
        refine s_holdTwin (xi := x.toInt) rfl (yi := y.toInt) rfl ?_ ?_
        ·
          intro p3 ep3 h13 h14 h15
          refine hp_id (st := [.int 1]) ?_
          refine hp_ri rfl rfl ?_
          first | (exact k1 _ (by subst_vars; rfl) (by first | assumption | omega) (by first | assumption | omega) (by first | assumption | omega)) | (exact k2 _ (by subst_vars; rfl) (by first | assumption | omega) (by first | assumption | omega) (by first | assumption | omega) (by first | assumption | omega)) | (exfalso; omega)
        ·
          intro p4 ep4 h16 h17 h18
          refine hp_id (st := [.int 1]) ?_
          refine hp_ri rfl rfl ?_
          first | (exact k1 _ (by subst_vars; rfl) (by first | assumption | omega) (by first | assumption | omega) (by first | assumption | omega)) | (exact k2 _ (by subst_vars; rfl) (by first | assumption | omega) (by first | assumption | omega) (by first | assumption | omega) (by first | assumption | omega)) | (exfalso; omega)
      ·
        intro h19
        refine hp_id (st := [.int 0]) ?_
        refine hp_go (pc' := 27) rfl rfl rfl ?_
        refine hp_s (pc' := 28) (st' := [.int (-1)]) rfl rfl rfl ?_
        refine hp_ri rfl rfl ?_
        first | (exact k0 (by first | assumption | omega)) | (exfalso; omega)
  ·
    intro h20
    refine hp_id (st := [.int 0]) ?_
    refine hp_go (pc' := 27) rfl rfl rfl ?_
    refine hp_s (pc' := 28) (st' := [.int (-1)]) rfl rfl rfl ?_
    refine hp_ri rfl rfl ?_
    first | (exact k0 (by first | assumption | omega)) | (exfalso; omega)
theorem M_keep {ro : List (List Int32)} {n d : Nat} {p : xH} {Q : Option Value → xH → Prop} {x : Int32} {xi : Int} {y : Int32} {yi : Int} (hx : x.toInt = xi) (hy : y.toInt = yi) (pre0 : 0 ≤ (rI p 66 44).toInt) (k0 : (¬ (0 ≤ xi ∧ xi < 6 ∧ (yi = -1 ∨ 0 ≤ yi ∧ yi < (rI p 66 44).toInt))) → Q (some (.int (-1))) p) (k1 : ∀ p2 : xH, p2 = (wV (wV p 97 xi.toNat (.int y)) 98 xi.toNat (.int 0)) → (0 ≤ xi) → (xi < 6) → (yi = -1 ∨ 0 ≤ yi ∧ yi < (rI p 66 44).toInt) → Q (some (.int (1))) p2) : hP ro n d (12, 3, 1, 1, k264) 0 (lv_args 0 [.ref 66, .int x, .int y]) [] p Q := by
  subst hx
  subst hy
  refine hp_id (ls := [(0, .ref 66), (1, .int x), (2, .int y)]) ?_
  refine hp_s (pc' := 1) (st' := [.int x]) rfl rfl rfl ?_
  refine hp_cs (kd := 0) (as := [.int x]) (rest := []) (pc' := 4) rfl rfl rfl rfl rfl rfl rfl (fun d1 => ?_)
  refine s_isShelfM (xi := x.toInt) rfl ?_ ?_
  ·
    intro h1 h2
    refine hp_id (st := [.int 1]) ?_
    refine hp_go (pc' := 7) rfl rfl rfl ?_
    refine hp_s (pc' := 8) (st' := [.int y]) rfl rfl rfl ?_
    refine hp_s (pc' := 9) (st' := [.int (-1), .int y]) rfl rfl rfl ?_
    refine hp_ic (pc' := 12) (t := 22) (a := y.toInt) (b := (-1)) rfl rfl rfl rfl (by decide) (fun (h3 : y.toInt = (-1)) => ?_) (fun (h4 : ¬ (y.toInt = (-1))) => ?_)
    ·
      refine hp_s (pc' := 23) (st' := [.ref 66]) rfl rfl rfl ?_
      refine hp_getr (k := 50) (w := .ref 97) (pc' := 26) rfl rfl rfl rfl rfl ?_
      refine hp_s (pc' := 27) (st' := [.int x, .ref 97]) rfl rfl rfl ?_
      refine hp_s (pc' := 28) (st' := [.int y, .int x, .ref 97]) rfl rfl rfl ?_
      refine hp_st (t := 100) rfl (.inl rfl) rfl rfl ?_
      intro p1 wp1 (p1a : 0 ≤ x.toInt) (p1b : x.toInt < 6) ep1
      refine hp_s (pc' := 30) (st' := [.ref 66]) rfl rfl rfl ?_
      refine hp_getr (k := 51) (w := .ref 98) (pc' := 33) rfl rfl rfl rfl rfl ?_
      refine hp_s (pc' := 34) (st' := [.int x, .ref 98]) rfl rfl rfl ?_
      refine hp_s (pc' := 35) (st' := [.int 0, .int x, .ref 98]) rfl rfl rfl ?_
      refine hp_st (t := 100) rfl (.inl rfl) rfl rfl ?_
      intro p2 wp2 (p2a : 0 ≤ x.toInt) (p2b : x.toInt < 6) ep2
      refine hp_s (pc' := 37) (st' := [.int 1]) rfl rfl rfl ?_
      refine hp_ri rfl rfl ?_
      first | (exact k1 _ (by subst_vars; rfl) (by first | assumption | omega) (by first | assumption | omega) (by first | assumption | omega)) | (exfalso; omega)
    ·
      refine hp_s (pc' := 13) (st' := [.ref 66]) rfl rfl rfl ?_
      refine hp_s (pc' := 14) (st' := [.int y, .ref 66]) rfl rfl rfl ?_
      refine hp_cv (r := 66) (o := 12) (kd := 1) (as := [.int y]) (rest := []) (pc' := 17) rfl rfl rfl rfl rfl rfl rfl rfl rfl (fun d2 => ?_)
      refine s_isBody (xi := y.toInt) rfl (by first | assumption | omega) ?_ ?_
      ·
        intro h5 h6
        refine hp_id (st := [.int 1]) ?_
        refine hp_go (pc' := 22) rfl rfl rfl ?_
        refine hp_s (pc' := 23) (st' := [.ref 66]) rfl rfl rfl ?_
        refine hp_getr (k := 50) (w := .ref 97) (pc' := 26) rfl rfl rfl rfl rfl ?_
        refine hp_s (pc' := 27) (st' := [.int x, .ref 97]) rfl rfl rfl ?_
        refine hp_s (pc' := 28) (st' := [.int y, .int x, .ref 97]) rfl rfl rfl ?_
        refine hp_st (t := 100) rfl (.inl rfl) rfl rfl ?_
        intro p3 wp3 (p3a : 0 ≤ x.toInt) (p3b : x.toInt < 6) ep3
        refine hp_s (pc' := 30) (st' := [.ref 66]) rfl rfl rfl ?_
        refine hp_getr (k := 51) (w := .ref 98) (pc' := 33) rfl rfl rfl rfl rfl ?_
        refine hp_s (pc' := 34) (st' := [.int x, .ref 98]) rfl rfl rfl ?_
        refine hp_s (pc' := 35) (st' := [.int 0, .int x, .ref 98]) rfl rfl rfl ?_
        refine hp_st (t := 100) rfl (.inl rfl) rfl rfl ?_
        intro p4 wp4 (p4a : 0 ≤ x.toInt) (p4b : x.toInt < 6) ep4
        refine hp_s (pc' := 37) (st' := [.int 1]) rfl rfl rfl ?_
        refine hp_ri rfl rfl ?_
        first | (exact k1 _ (by subst_vars; rfl) (by first | assumption | omega) (by first | assumption | omega) (by first | assumption | omega)) | (exfalso; omega)
      ·
        intro h7
        refine hp_id (st := [.int 0]) ?_
        refine hp_go (pc' := 20) rfl rfl rfl ?_
        refine hp_s (pc' := 21) (st' := [.int (-1)]) rfl rfl rfl ?_
        refine hp_ri rfl rfl ?_
        first | (exact k0 (by first | assumption | omega)) | (exfalso; omega)
  ·
    intro h8
    refine hp_id (st := [.int 0]) ?_
    refine hp_go (pc' := 20) rfl rfl rfl ?_
    refine hp_s (pc' := 21) (st' := [.int (-1)]) rfl rfl rfl ?_
    refine hp_ri rfl rfl ?_
    first | (exact k0 (by first | assumption | omega)) | (exfalso; omega)
