/-! contracts of methods, walked -/
theorem s_take {ro : List (List Int32)} {n d : Nat} {p : xH} {Q : Option Value → xH → Prop} {x : Int32} {xi : Int} (hx : x.toInt = xi)  (k0 : (120 ≤ (rI p 25 2).toInt) → Q (some (.int (-3))) p) (k1 : ∀ z : Int32, ∀ p2 : xH, p2 = (wV (wV p 31 ((rI p 25 2).toInt.toNat) (.int x)) 25 2 (.int (rI p 25 2 + 1))) → ((rI p 25 2).toInt < 120) → (z = rI p 25 2 + 1) → Q (some (.int z)) p2) : hP ro n d (8, 2, 1, 1, k92) 0 (lv_args 0 [.ref 25, .int x]) [] p Q := by
  subst hx
  refine hp_id (ls := [(0, .ref 25), (1, .int x)]) ?_
  refine hp_s (pc' := 1) (st' := [.ref 25]) rfl rfl rfl ?_
  refine hp_get (k := 2) (pc' := 4) (v := (rI p 25 2)) rfl rfl rfl rfl rfl rfl ?_
  refine hp_s (pc' := 6) (st' := [.int 120, .int (rI p 25 2)]) rfl rfl rfl ?_
  refine hp_ic (pc' := 9) (t := 12) (a := (rI p 25 2).toInt) (b := 120) rfl rfl rfl rfl (by decide) (fun (h1 : (rI p 25 2).toInt < 120) => ?_) (fun (h2 : ¬ ((rI p 25 2).toInt < 120)) => ?_)
  ·
    refine hp_s (pc' := 13) (st' := [.ref 25]) rfl rfl rfl ?_
    refine hp_getr (k := 1) (w := .ref 31) (pc' := 16) rfl rfl rfl rfl rfl ?_
    refine hp_s (pc' := 17) (st' := [.ref 25, .ref 31]) rfl rfl rfl ?_
    refine hp_get (k := 2) (pc' := 20) (v := (rI p 25 2)) rfl rfl rfl rfl rfl rfl ?_
    refine hp_s (pc' := 21) (st' := [.int x, .int (rI p 25 2), .ref 31]) rfl rfl rfl ?_
    refine hp_st (t := 100) rfl (.inl rfl) rfl rfl ?_
    intro p1 wp1 (p1a : 0 ≤ (rI p 25 2).toInt) (p1b : (rI p 25 2).toInt < 120) ep1
    refine hp_s (pc' := 23) (st' := [.ref 25]) rfl rfl rfl ?_
    refine hp_s (pc' := 24) (st' := [.ref 25, .ref 25]) rfl rfl rfl ?_
    refine hp_get (k := 2) (pc' := 27) (v := (rI p 25 2)) rfl rfl rfl rfl rfl (by rw [ep1, rI_o (by decide)]) ?_
    refine hp_s (pc' := 28) (st' := [.int 1, .int (rI p 25 2), .ref 25]) rfl rfl rfl ?_
    refine hp_z (pc' := 29) (e := (rI p 25 2) + 1) (st' := [.ref 25]) rfl rfl rfl ?_
    intro z1 hz1
    have ez1 := i_add hz1 (show (rI p 25 2).toInt = (rI p 25 2).toInt from rfl) (show (1 : Int32).toInt = 1 from by decide)
    refine hp_put (k := 2) (pc' := 32) rfl rfl rfl rfl rfl ?_
    intro p2 wp2 ep2
    refine hp_s (pc' := 33) (st' := [.ref 25]) rfl rfl rfl ?_
    refine hp_get (k := 2) (pc' := 36) (v := z1) rfl rfl rfl rfl rfl (by rw [ep2, rI_eq wp2 (by decide)]) ?_
    refine hp_ri rfl rfl ?_
    first | (exact k0 (by first | assumption | omega | (subst_vars; rfl))) | (exact k1 _ _ (by subst_vars; repeat' (first | with_reducible rfl | omega | rfl | congr 1)) (by first | assumption | omega | (subst_vars; rfl)) (by first | assumption | omega | (subst_vars; rfl))) | (exfalso; omega)
  ·
    refine hp_s (pc' := 11) (st' := [.int (-3)]) rfl rfl rfl ?_
    refine hp_ri rfl rfl ?_
    first | (exact k0 (by first | assumption | omega | (subst_vars; rfl))) | (exact k1 _ _ (by subst_vars; repeat' (first | with_reducible rfl | omega | rfl | congr 1)) (by first | assumption | omega | (subst_vars; rfl)) (by first | assumption | omega | (subst_vars; rfl))) | (exfalso; omega)
theorem X_feed {ro : List (List Int32)} {n d : Nat} {p : xH} {Q : Option Value → xH → Prop} {x : Int32} {xi : Int} (hx : x.toInt = xi)  (k0 : (¬ (0 ≤ xi ∧ xi ≤ 255)) → Q (some (.int (-1))) p) (k1 : (0 ≤ xi) → (xi ≤ 255) → (120 ≤ (rI p 25 2).toInt) → Q (some (.int (-3))) p) (k2 : ∀ z : Int32, ∀ p2 : xH, p2 = (wV (wV p 31 ((rI p 25 2).toInt.toNat) (.int x)) 25 2 (.int (rI p 25 2 + 1))) → (0 ≤ xi) → (xi ≤ 255) → ((rI p 25 2).toInt < 120) → (z = rI p 25 2 + 1) → Q (some (.int z)) p2) : hP ro n d (11, 2, 1, 1, k136) 0 (lv_args 0 [.ref 0, .int x]) [] p Q := by
  subst hx
  refine hp_id (ls := [(0, .ref 0), (1, .int x)]) ?_
  refine hp_s (pc' := 1) (st' := [.int x]) rfl rfl rfl ?_
  refine hp_if (pc' := 4) (t := 11) (a := x.toInt) rfl rfl rfl rfl (fun (h1 : x.toInt < 0) => ?_) (fun (h2 : ¬ (x.toInt < 0)) => ?_)
  ·
    refine hp_s (pc' := 12) (st' := [.int (-1)]) rfl rfl rfl ?_
    refine hp_ri rfl rfl ?_
    first | (exact k0 (by first | assumption | omega | (subst_vars; rfl))) | (exact k2 _ _ (by first | assumption | (subst_vars; rfl)) (by first | assumption | omega | (subst_vars; rfl)) (by first | assumption | omega | (subst_vars; rfl)) (by first | assumption | omega | (subst_vars; rfl)) (by first | assumption | omega | (subst_vars; rfl))) | (exfalso; omega)
  ·
    refine hp_s (pc' := 5) (st' := [.int x]) rfl rfl rfl ?_
    refine hp_s (pc' := 8) (st' := [.int 255, .int x]) rfl rfl rfl ?_
    refine hp_ic (pc' := 11) (t := 13) (a := x.toInt) (b := 255) rfl rfl rfl rfl (by decide) (fun (h3 : x.toInt ≤ 255) => ?_) (fun (h4 : ¬ (x.toInt ≤ 255)) => ?_)
    ·
      refine hp_s (pc' := 14) (st' := [.ref 0]) rfl rfl rfl ?_
      refine hp_getr (k := 6) (w := .ref 25) (pc' := 17) rfl rfl rfl rfl rfl ?_
      refine hp_s (pc' := 18) (st' := [.int x, .ref 25]) rfl rfl rfl ?_
      refine hp_cv (r := 25) (o := 8) (kd := 1) (as := [.int x]) (rest := []) (pc' := 21) rfl rfl rfl rfl rfl rfl rfl rfl rfl (fun d1 => ?_)
      refine s_take (xi := x.toInt) rfl ?_ ?_
      ·
        intro h5
        refine hp_id (st := [.int (-3)]) ?_
        refine hp_ri rfl rfl ?_
        first | (exact k1 (by first | assumption | omega | (subst_vars; rfl)) (by first | assumption | omega | (subst_vars; rfl)) (by first | assumption | omega | (subst_vars; rfl))) | (exact k2 _ _ (by first | assumption | (subst_vars; rfl)) (by first | assumption | omega | (subst_vars; rfl)) (by first | assumption | omega | (subst_vars; rfl)) (by first | assumption | omega | (subst_vars; rfl)) (by first | assumption | omega | (subst_vars; rfl))) | (exfalso; omega)
      ·
        intro y1 p1 ep1 h6 h7
        refine hp_id (st := [.int y1]) ?_
        refine hp_ri rfl rfl ?_
        first | (exact k0 (by first | assumption | omega | (subst_vars; rfl))) | (exact k1 (by first | assumption | omega | (subst_vars; rfl)) (by first | assumption | omega | (subst_vars; rfl)) (by first | assumption | omega | (subst_vars; rfl))) | (exact k2 _ _ (by first | assumption | (subst_vars; rfl)) (by first | assumption | omega | (subst_vars; rfl)) (by first | assumption | omega | (subst_vars; rfl)) (by first | assumption | omega | (subst_vars; rfl)) (by first | assumption | omega | (subst_vars; rfl))) | (exfalso; omega)
    ·
      refine hp_s (pc' := 12) (st' := [.int (-1)]) rfl rfl rfl ?_
      refine hp_ri rfl rfl ?_
      first | (exact k0 (by first | assumption | omega | (subst_vars; rfl))) | (exact k2 _ _ (by first | assumption | (subst_vars; rfl)) (by first | assumption | omega | (subst_vars; rfl)) (by first | assumption | omega | (subst_vars; rfl)) (by first | assumption | omega | (subst_vars; rfl)) (by first | assumption | omega | (subst_vars; rfl))) | (exfalso; omega)
theorem M_feed {ro : List (List Int32)} {n d : Nat} {p : xH} {Q : Option Value → xH → Prop} {x : Int32} {xi : Int} (hx : x.toInt = xi) (pre0 : (rI p 66 12).toInt ≤ 120) (k0 : (¬ (0 ≤ xi ∧ xi ≤ 255)) → Q (some (.int (-1))) p) (k1 : (0 ≤ xi) → (xi ≤ 255) → ((rI p 66 12).toInt = 120) → Q (some (.int (-3))) p) (k2 : ∀ z : Int32, ∀ p2 : xH, p2 = (wV (wV p 75 ((rI p 66 12).toInt.toNat) (.int x)) 66 12 (.int (rI p 66 12 + 1))) → (0 ≤ xi) → (xi ≤ 255) → ((rI p 66 12).toInt < 120) → (z = rI p 66 12 + 1) → Q (some (.int z)) p2) : hP ro n d (12, 2, 1, 1, k196) 0 (lv_args 0 [.ref 66, .int x]) [] p Q := by
  subst hx
  refine hp_id (ls := [(0, .ref 66), (1, .int x)]) ?_
  refine hp_s (pc' := 1) (st' := [.int x]) rfl rfl rfl ?_
  refine hp_i2l (pc' := 2) rfl rfl ?_
  intro z1 hz1 ez1
  refine hp_s (pc' := 3) (st' := [.long 0, .long z1]) rfl rfl rfl ?_
  refine hp_s (pc' := 6) (st' := [.long 255, .long 0, .long z1]) rfl rfl rfl ?_
  refine hp_cs (kd := 0) (as := [.long z1, .long 0, .long 255]) (rest := []) (pc' := 9) rfl rfl rfl rfl rfl rfl rfl (fun d1 => ?_)
  refine s_within (vi := x.toInt) ez1 (ai := 0) (by decide) (bi := 255) (by decide) ?_ ?_
  ·
    intro h1 h2
    refine hp_id (st := [.int 1]) ?_
    refine hp_go (pc' := 14) rfl rfl rfl ?_
    refine hp_s (pc' := 15) (st' := [.ref 66]) rfl rfl rfl ?_
    refine hp_get (k := 12) (pc' := 18) (v := (rI p 66 12)) rfl rfl rfl rfl rfl rfl ?_
    refine hp_s (pc' := 20) (st' := [.int 120, .int (rI p 66 12)]) rfl rfl rfl ?_
    refine hp_ic (pc' := 23) (t := 26) (a := (rI p 66 12).toInt) (b := 120) rfl rfl rfl rfl (by decide) (fun (h3 : (rI p 66 12).toInt ≠ 120) => ?_) (fun (h4 : ¬ ((rI p 66 12).toInt ≠ 120)) => ?_)
    ·
      refine hp_s (pc' := 27) (st' := [.ref 66]) rfl rfl rfl ?_
      refine hp_getr (k := 11) (w := .ref 75) (pc' := 30) rfl rfl rfl rfl rfl ?_
      refine hp_s (pc' := 31) (st' := [.ref 66, .ref 75]) rfl rfl rfl ?_
      refine hp_get (k := 12) (pc' := 34) (v := (rI p 66 12)) rfl rfl rfl rfl rfl rfl ?_
      refine hp_s (pc' := 35) (st' := [.int x, .int (rI p 66 12), .ref 75]) rfl rfl rfl ?_
      refine hp_st (t := 100) rfl (.inl rfl) rfl rfl ?_
      intro p1 wp1 (p1a : 0 ≤ (rI p 66 12).toInt) (p1b : (rI p 66 12).toInt < 120) ep1
      refine hp_s (pc' := 37) (st' := [.ref 66]) rfl rfl rfl ?_
      refine hp_s (pc' := 38) (st' := [.ref 66, .ref 66]) rfl rfl rfl ?_
      refine hp_get (k := 12) (pc' := 41) (v := (rI p 66 12)) rfl rfl rfl rfl rfl (by rw [ep1, rI_o (by decide)]) ?_
      refine hp_s (pc' := 42) (st' := [.int 1, .int (rI p 66 12), .ref 66]) rfl rfl rfl ?_
      refine hp_z (pc' := 43) (e := (rI p 66 12) + 1) (st' := [.ref 66]) rfl rfl rfl ?_
      intro z2 hz2
      have ez2 := i_add hz2 (show (rI p 66 12).toInt = (rI p 66 12).toInt from rfl) (show (1 : Int32).toInt = 1 from by decide)
      refine hp_put (k := 12) (pc' := 46) rfl rfl rfl rfl rfl ?_
      intro p2 wp2 ep2
      refine hp_s (pc' := 47) (st' := [.ref 66]) rfl rfl rfl ?_
      refine hp_get (k := 12) (pc' := 50) (v := z2) rfl rfl rfl rfl rfl (by rw [ep2, rI_eq wp2 (by decide)]) ?_
      refine hp_ri rfl rfl ?_
      first | (exact k0 (by first | assumption | omega | (subst_vars; rfl))) | (exact k1 (by first | assumption | omega | (subst_vars; rfl)) (by first | assumption | omega | (subst_vars; rfl)) (by first | assumption | omega | (subst_vars; rfl))) | (exact k2 _ _ (by subst_vars; repeat' (first | with_reducible rfl | omega | rfl | congr 1)) (by first | assumption | omega | (subst_vars; rfl)) (by first | assumption | omega | (subst_vars; rfl)) (by first | assumption | omega | (subst_vars; rfl)) (by first | assumption | omega | (subst_vars; rfl))) | (exfalso; omega)
    ·
      refine hp_s (pc' := 25) (st' := [.int (-3)]) rfl rfl rfl ?_
      refine hp_ri rfl rfl ?_
      first | (exact k1 (by first | assumption | omega | (subst_vars; rfl)) (by first | assumption | omega | (subst_vars; rfl)) (by first | assumption | omega | (subst_vars; rfl))) | (exact k2 _ _ (by subst_vars; repeat' (first | with_reducible rfl | omega | rfl | congr 1)) (by first | assumption | omega | (subst_vars; rfl)) (by first | assumption | omega | (subst_vars; rfl)) (by first | assumption | omega | (subst_vars; rfl)) (by first | assumption | omega | (subst_vars; rfl))) | (exfalso; omega)
  ·
    intro h5
    refine hp_id (st := [.int 0]) ?_
    refine hp_go (pc' := 12) rfl rfl rfl ?_
    refine hp_s (pc' := 13) (st' := [.int (-1)]) rfl rfl rfl ?_
    refine hp_ri rfl rfl ?_
    first | (exact k0 (by first | assumption | omega | (subst_vars; rfl))) | (exact k2 _ _ (by subst_vars; repeat' (first | with_reducible rfl | omega | rfl | congr 1)) (by first | assumption | omega | (subst_vars; rfl)) (by first | assumption | omega | (subst_vars; rfl)) (by first | assumption | omega | (subst_vars; rfl)) (by first | assumption | omega | (subst_vars; rfl))) | (exfalso; omega)
