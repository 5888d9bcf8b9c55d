/-! contracts of methods, walked -/
theorem s_addErrand {ro : List (List Int32)} {n d : Nat} {p : xH} {Q : Option Value → xH → Prop} {x : Int32} {xi : Int} {s : Int32} {si : Int} {m : Int32} {mi : Int} (hx : x.toInt = xi) (hs : s.toInt = si) (hm : m.toInt = mi) (pre0 : 0 ≤ xi) (pre1 : xi < 7) (pre2 : 0 ≤ (rI p 17 xi.toNat).toInt) (k0 : (4 ≤ (rI p 17 xi.toNat).toInt) → Q (some (.int (-3))) p) (k1 : ∀ z : Int32, ∀ p2 : xH, p2 = (wV (wV (wV p 18 ((4 * xi + (rI p 17 xi.toNat).toInt).toNat) (.int s)) 19 ((4 * xi + (rI p 17 xi.toNat).toInt).toNat) (.int m)) 17 xi.toNat (.int ((rI p 17 xi.toNat) + 1))) → ((rI p 17 xi.toNat).toInt < 4) → (z.toInt = (rI p 17 xi.toNat).toInt + 1) → Q (some (.int z)) p2) : hP ro n d (1, 5, 1, 1, k10) 0 (lv_args 0 [.ref 13, .int x, .int s, .int m]) [] p Q := by
  subst hx
  subst hs
  subst hm
  refine hp_id (ls := [(0, .ref 13), (1, .int x), (2, .int s), (3, .int m)]) ?_
  refine hp_s (pc' := 1) (st' := [.ref 13]) rfl rfl rfl ?_
  refine hp_getr (k := 4) (w := .ref 17) (pc' := 4) rfl rfl rfl rfl rfl ?_
  refine hp_s (pc' := 5) (st' := [.int x, .ref 17]) rfl rfl rfl ?_
  refine hp_ld (t := 100) (v := (rI p 17 x.toInt.toNat)) rfl (.inl rfl) rfl rfl rfl ?_
  intro (g1a : 0 ≤ x.toInt) (g1b : x.toInt < 7)
  refine hp_s (pc' := 8) (ls' := [(4, .int (rI p 17 x.toInt.toNat)), (0, .ref 13), (1, .int x), (2, .int s), (3, .int m)]) (st' := []) rfl rfl rfl ?_
  refine hp_s (pc' := 10) (st' := [.int (rI p 17 x.toInt.toNat)]) rfl rfl rfl ?_
  refine hp_s (pc' := 11) (st' := [.int 4, .int (rI p 17 x.toInt.toNat)]) rfl rfl rfl ?_
  refine hp_ic (pc' := 14) (t := 17) (a := (rI p 17 x.toInt.toNat).toInt) (b := 4) rfl rfl rfl rfl (by decide) (fun (h1 : (rI p 17 x.toInt.toNat).toInt < 4) => ?_) (fun (h2 : ¬ ((rI p 17 x.toInt.toNat).toInt < 4)) => ?_)
  ·
    refine hp_s (pc' := 18) (st' := [.ref 13]) rfl rfl rfl ?_
    refine hp_getr (k := 5) (w := .ref 18) (pc' := 21) rfl rfl rfl rfl rfl ?_
    refine hp_s (pc' := 22) (st' := [.int x, .ref 18]) rfl rfl rfl ?_
    refine hp_s (pc' := 23) (st' := [.int 4, .int x, .ref 18]) rfl rfl rfl ?_
    refine hp_z (pc' := 24) (e := x * 4) (st' := [.ref 18]) rfl rfl rfl ?_
    intro z1 hz1
    have ez1 := i_mul hz1 (show x.toInt = x.toInt from rfl) (show (4 : Int32).toInt = 4 from by decide)
    refine hp_s (pc' := 26) (st' := [.int (rI p 17 x.toInt.toNat), .int z1, .ref 18]) rfl rfl rfl ?_
    refine hp_z (pc' := 27) (e := z1 + (rI p 17 x.toInt.toNat)) (st' := [.ref 18]) rfl rfl rfl ?_
    intro z2 hz2
    have ez2 := i_add hz2 (show z1.toInt = z1.toInt from rfl) (show (rI p 17 x.toInt.toNat).toInt = (rI p 17 x.toInt.toNat).toInt from rfl)
    refine hp_s (pc' := 28) (st' := [.int s, .int z2, .ref 18]) rfl rfl rfl ?_
    refine hp_st (t := 100) rfl (.inl rfl) rfl rfl ?_
    intro p1 wp1 (p1a : 0 ≤ z2.toInt) (p1b : z2.toInt < 28) ep1
    refine hp_s (pc' := 30) (st' := [.ref 13]) rfl rfl rfl ?_
    refine hp_getr (k := 6) (w := .ref 19) (pc' := 33) rfl rfl rfl rfl rfl ?_
    refine hp_s (pc' := 34) (st' := [.int x, .ref 19]) rfl rfl rfl ?_
    refine hp_s (pc' := 35) (st' := [.int 4, .int x, .ref 19]) rfl rfl rfl ?_
    refine hp_z (pc' := 36) (e := x * 4) (st' := [.ref 19]) rfl rfl rfl ?_
    intro z3 hz3
    have ez3 := i_mul hz3 (show x.toInt = x.toInt from rfl) (show (4 : Int32).toInt = 4 from by decide)
    refine hp_s (pc' := 38) (st' := [.int (rI p 17 x.toInt.toNat), .int z3, .ref 19]) rfl rfl rfl ?_
    refine hp_z (pc' := 39) (e := z3 + (rI p 17 x.toInt.toNat)) (st' := [.ref 19]) rfl rfl rfl ?_
    intro z4 hz4
    have ez4 := i_add hz4 (show z3.toInt = z3.toInt from rfl) (show (rI p 17 x.toInt.toNat).toInt = (rI p 17 x.toInt.toNat).toInt from rfl)
    refine hp_s (pc' := 40) (st' := [.int m, .int z4, .ref 19]) rfl rfl rfl ?_
    refine hp_st (t := 100) rfl (.inl rfl) rfl rfl ?_
    intro p2 wp2 (p2a : 0 ≤ z4.toInt) (p2b : z4.toInt < 28) ep2
    refine hp_s (pc' := 42) (st' := [.ref 13]) rfl rfl rfl ?_
    refine hp_getr (k := 4) (w := .ref 17) (pc' := 45) rfl rfl rfl rfl rfl ?_
    refine hp_s (pc' := 46) (st' := [.int x, .ref 17]) rfl rfl rfl ?_
    refine hp_s (pc' := 48) (st' := [.int (rI p 17 x.toInt.toNat), .int x, .ref 17]) rfl rfl rfl ?_
    refine hp_s (pc' := 49) (st' := [.int 1, .int (rI p 17 x.toInt.toNat), .int x, .ref 17]) rfl rfl rfl ?_
    refine hp_z (pc' := 50) (e := (rI p 17 x.toInt.toNat) + 1) (st' := [.int x, .ref 17]) rfl rfl rfl ?_
    intro z5 hz5
    have ez5 := i_add hz5 (show (rI p 17 x.toInt.toNat).toInt = (rI p 17 x.toInt.toNat).toInt from rfl) (show (1 : Int32).toInt = 1 from by decide)
    refine hp_st (t := 100) rfl (.inl rfl) rfl rfl ?_
    intro p3 wp3 (p3a : 0 ≤ x.toInt) (p3b : x.toInt < 7) ep3
    refine hp_s (pc' := 53) (st' := [.int (rI p 17 x.toInt.toNat)]) rfl rfl rfl ?_
    refine hp_s (pc' := 54) (st' := [.int 1, .int (rI p 17 x.toInt.toNat)]) rfl rfl rfl ?_
    refine hp_z (pc' := 55) (e := (rI p 17 x.toInt.toNat) + 1) (st' := []) rfl rfl rfl ?_
    intro z6 hz6
    have ez6 := i_add hz6 (show (rI p 17 x.toInt.toNat).toInt = (rI p 17 x.toInt.toNat).toInt from rfl) (show (1 : Int32).toInt = 1 from by decide)
    refine hp_ri rfl rfl ?_
    first | (exact k0 (by first | assumption | omega)) | (exact k1 _ _ (by subst_vars; repeat' (first | with_reducible rfl | omega | rfl | congr 1)) (by first | assumption | omega) (by first | assumption | omega)) | (exfalso; omega)
  ·
    refine hp_s (pc' := 16) (st' := [.int (-3)]) rfl rfl rfl ?_
    refine hp_ri rfl rfl ?_
    first | (exact k0 (by first | assumption | omega)) | (exact k1 _ _ (by subst_vars; repeat' (first | with_reducible rfl | omega | rfl | congr 1)) (by first | assumption | omega) (by first | assumption | omega)) | (exfalso; omega)
theorem X_errand {ro : List (List Int32)} {n d : Nat} {p : xH} {Q : Option Value → xH → Prop} {x : Int32} {xi : Int} {f : Int32} {fi : Int} (hx : x.toInt = xi) (hf : f.toInt = fi) (pre0 : (rI p 13 7).toInt ≤ 7) (pre1 : 0 ≤ (rI p 17 xi.toNat).toInt) (k0 : (¬ (0 ≤ xi ∧ xi < (rI p 13 7).toInt ∧ 0 ≤ fi ∧ fi / 10 < 5 ∧ 1 ≤ fi % 10 ∧ fi % 10 ≤ 6)) → Q (some (.int (-1))) p) (k1 : (0 ≤ xi) → (xi < (rI p 13 7).toInt) → (0 ≤ fi) → (fi / 10 < 5) → (1 ≤ fi % 10) → (fi % 10 ≤ 6) → (4 ≤ (rI p 17 xi.toNat).toInt) → Q (some (.int (-3))) p) (k2 : ∀ z : Int32, ∀ p2 : xH, p2 = (wV (wV (wV p 18 ((4 * xi + (rI p 17 xi.toNat).toInt).toNat) (.int (f / 10))) 19 ((4 * xi + (rI p 17 xi.toNat).toInt).toNat) (.int (f - f / 10 * 10))) 17 xi.toNat (.int ((rI p 17 xi.toNat) + 1))) → (0 ≤ xi) → (xi < (rI p 13 7).toInt) → (0 ≤ fi) → (fi / 10 < 5) → (1 ≤ fi % 10) → (fi % 10 ≤ 6) → ((rI p 17 xi.toNat).toInt < 4) → (z.toInt = (rI p 17 xi.toNat).toInt + 1) → Q (some (.int z)) p2) : hP ro n d (11, 5, 1, 1, k128) 0 (lv_args 0 [.ref 0, .int x, .int f]) [] p Q := by
  subst hx
  subst hf
  refine hp_id (ls := [(0, .ref 0), (1, .int x), (2, .int f)]) ?_
  refine hp_s (pc' := 1) (st' := [.ref 0]) rfl rfl rfl ?_
  refine hp_getr (k := 4) (w := .ref 13) (pc' := 4) rfl rfl rfl rfl rfl ?_
  refine hp_s (pc' := 5) (st' := [.int x, .ref 13]) rfl rfl rfl ?_
  refine hp_cv (r := 13) (o := 1) (kd := 1) (as := [.int x]) (rest := []) (pc' := 8) rfl rfl rfl rfl rfl rfl rfl rfl rfl (fun d1 => ?_)
  refine s_has (xi := x.toInt) rfl ?_ ?_
  ·
    intro h1 h2
    refine hp_id (st := [.int 1]) ?_
    refine hp_go (pc' := 11) rfl rfl rfl ?_
    refine hp_s (pc' := 12) (st' := [.int f]) rfl rfl rfl ?_
    refine hp_if (pc' := 15) (t := 17) (a := f.toInt) rfl rfl rfl rfl (fun (h3 : 0 ≤ f.toInt) => ?_) (fun (h4 : ¬ (0 ≤ f.toInt)) => ?_)
    ·
      refine hp_s (pc' := 18) (st' := [.int f]) rfl rfl rfl ?_
      refine hp_s (pc' := 20) (st' := [.int 10, .int f]) rfl rfl rfl ?_
      refine hp_z (pc' := 21) (e := f / 10) (st' := []) rfl rfl rfl ?_
      intro z1 hz1
      have ez1 := i_div hz1 (show f.toInt = f.toInt from rfl) (show (10 : Int32).toInt = 10 from by decide) (by decide)
      refine hp_s (pc' := 22) (ls' := [(3, .int z1), (0, .ref 0), (1, .int x), (2, .int f)]) (st' := []) rfl rfl rfl ?_
      refine hp_s (pc' := 23) (st' := [.int f]) rfl rfl rfl ?_
      refine hp_s (pc' := 25) (st' := [.int 10, .int f]) rfl rfl rfl ?_
      refine hp_z (pc' := 26) (e := f - f / 10 * 10) (st' := []) rfl rfl rfl ?_
      intro z2 hz2
      have ez2 := i_rem hz2 (show f.toInt = f.toInt from rfl) (show (10 : Int32).toInt = 10 from by decide) (by decide)
      refine hp_s (pc' := 28) (ls' := [(4, .int z2), (3, .int z1), (0, .ref 0), (1, .int x), (2, .int f)]) (st' := []) rfl rfl rfl ?_
      refine hp_s (pc' := 29) (st' := [.int z1]) rfl rfl rfl ?_
      refine hp_s (pc' := 30) (st' := [.int 5, .int z1]) rfl rfl rfl ?_
      refine hp_ic (pc' := 33) (t := 46) (a := (f.toInt / 10)) (b := 5) rfl rfl rfl (by omega) (by decide) (fun (h5 : 5 ≤ (f.toInt / 10)) => ?_) (fun (h6 : ¬ (5 ≤ (f.toInt / 10))) => ?_)
      ·
        refine hp_s (pc' := 47) (st' := [.int (-1)]) rfl rfl rfl ?_
        refine hp_ri rfl rfl ?_
        first | (exact k0 (by first | assumption | omega)) | (exact k2 _ _ (by subst_vars; repeat' (first | with_reducible rfl | omega | rfl | congr 1)) (by first | assumption | omega) (by first | assumption | omega) (by first | assumption | omega) (by first | assumption | omega) (by first | assumption | omega) (by first | assumption | omega) (by first | assumption | omega) (by first | assumption | omega)) | (exfalso; omega)
      ·
        refine hp_s (pc' := 35) (st' := [.int z2]) rfl rfl rfl ?_
        refine hp_s (pc' := 36) (st' := [.int 1, .int z2]) rfl rfl rfl ?_
        refine hp_ic (pc' := 39) (t := 46) (a := (f.toInt % 10)) (b := 1) rfl rfl rfl (by omega) (by decide) (fun (h7 : (f.toInt % 10) < 1) => ?_) (fun (h8 : ¬ ((f.toInt % 10) < 1)) => ?_)
        ·
          refine hp_s (pc' := 47) (st' := [.int (-1)]) rfl rfl rfl ?_
          refine hp_ri rfl rfl ?_
          first | (exact k0 (by first | assumption | omega)) | (exact k2 _ _ (by subst_vars; repeat' (first | with_reducible rfl | omega | rfl | congr 1)) (by first | assumption | omega) (by first | assumption | omega) (by first | assumption | omega) (by first | assumption | omega) (by first | assumption | omega) (by first | assumption | omega) (by first | assumption | omega) (by first | assumption | omega)) | (exfalso; omega)
        ·
          refine hp_s (pc' := 41) (st' := [.int z2]) rfl rfl rfl ?_
          refine hp_s (pc' := 43) (st' := [.int 6, .int z2]) rfl rfl rfl ?_
          refine hp_ic (pc' := 46) (t := 48) (a := (f.toInt % 10)) (b := 6) rfl rfl rfl (by omega) (by decide) (fun (h9 : (f.toInt % 10) ≤ 6) => ?_) (fun (h10 : ¬ ((f.toInt % 10) ≤ 6)) => ?_)
          ·
            refine hp_s (pc' := 49) (st' := [.ref 0]) rfl rfl rfl ?_
            refine hp_getr (k := 4) (w := .ref 13) (pc' := 52) rfl rfl rfl rfl rfl ?_
            refine hp_s (pc' := 53) (st' := [.int x, .ref 13]) rfl rfl rfl ?_
            refine hp_s (pc' := 54) (st' := [.int z1, .int x, .ref 13]) rfl rfl rfl ?_
            refine hp_s (pc' := 56) (st' := [.int z2, .int z1, .int x, .ref 13]) rfl rfl rfl ?_
            refine hp_cv (r := 13) (o := 1) (kd := 1) (as := [.int x, .int z1, .int z2]) (rest := []) (pc' := 59) rfl rfl rfl rfl rfl rfl rfl rfl rfl (fun d2 => ?_)
            refine s_addErrand (xi := x.toInt) rfl (si := (f.toInt / 10)) (by omega) (mi := (f.toInt % 10)) (by omega) (by first | assumption | omega) (by first | assumption | omega) (by first | assumption | omega) ?_ ?_
            ·
              intro h11
              refine hp_id (st := [.int (-3)]) ?_
              refine hp_ri rfl rfl ?_
              first | (exact k1 (by first | assumption | omega) (by first | assumption | omega) (by first | assumption | omega) (by first | assumption | omega) (by first | assumption | omega) (by first | assumption | omega) (by first | assumption | omega)) | (exact k2 _ _ (by subst_vars; repeat' (first | with_reducible rfl | omega | rfl | congr 1)) (by first | assumption | omega) (by first | assumption | omega) (by first | assumption | omega) (by first | assumption | omega) (by first | assumption | omega) (by first | assumption | omega) (by first | assumption | omega) (by first | assumption | omega)) | (exfalso; omega)
            ·
              intro y1 p1 ep1 h12 h13
              refine hp_id (st := [.int y1]) ?_
              refine hp_ri rfl rfl ?_
              first | (exact k0 (by first | assumption | omega)) | (exact k1 (by first | assumption | omega) (by first | assumption | omega) (by first | assumption | omega) (by first | assumption | omega) (by first | assumption | omega) (by first | assumption | omega) (by first | assumption | omega)) | (exact k2 _ _ (by subst_vars; repeat' (first | with_reducible rfl | omega | rfl | congr 1)) (by first | assumption | omega) (by first | assumption | omega) (by first | assumption | omega) (by first | assumption | omega) (by first | assumption | omega) (by first | assumption | omega) (by first | assumption | omega) (by first | assumption | omega)) | (exfalso; omega)
          ·
            refine hp_s (pc' := 47) (st' := [.int (-1)]) rfl rfl rfl ?_
            refine hp_ri rfl rfl ?_
            first | (exact k0 (by first | assumption | omega)) | (exact k2 _ _ (by subst_vars; repeat' (first | with_reducible rfl | omega | rfl | congr 1)) (by first | assumption | omega) (by first | assumption | omega) (by first | assumption | omega) (by first | assumption | omega) (by first | assumption | omega) (by first | assumption | omega) (by first | assumption | omega) (by first | assumption | omega)) | (exfalso; omega)
    ·
      refine hp_s (pc' := 16) (st' := [.int (-1)]) rfl rfl rfl ?_
      refine hp_ri rfl rfl ?_
      first | (exact k0 (by first | assumption | omega)) | (exact k2 _ _ (by subst_vars; repeat' (first | with_reducible rfl | omega | rfl | congr 1)) (by first | assumption | omega) (by first | assumption | omega) (by first | assumption | omega) (by first | assumption | omega) (by first | assumption | omega) (by first | assumption | omega) (by first | assumption | omega) (by first | assumption | omega)) | (exfalso; omega)
  ·
    intro h14
    refine hp_id (st := [.int 0]) ?_
    refine hp_go (pc' := 15) rfl rfl rfl ?_
    refine hp_s (pc' := 16) (st' := [.int (-1)]) rfl rfl rfl ?_
    refine hp_ri rfl rfl ?_
    first | (exact k0 (by first | assumption | omega)) | (exact k2 _ _ (by subst_vars; repeat' (first | with_reducible rfl | omega | rfl | congr 1)) (by first | assumption | omega) (by first | assumption | omega) (by first | assumption | omega) (by first | assumption | omega) (by first | assumption | omega) (by first | assumption | omega) (by first | assumption | omega) (by first | assumption | omega)) | (exfalso; omega)
theorem M_errand {ro : List (List Int32)} {n d : Nat} {p : xH} {Q : Option Value → xH → Prop} {x : Int32} {xi : Int} {f : Int32} {fi : Int} (hx : x.toInt = xi) (hf : f.toInt = fi) (pre0 : 0 ≤ (rI p 66 6).toInt) (pre1 : (rI p 66 6).toInt ≤ 7) (pre2 : 0 ≤ (rI p 72 xi.toNat).toInt) (pre3 : (rI p 72 xi.toNat).toInt ≤ 4) (k0 : (¬ (0 ≤ xi ∧ xi < (rI p 66 6).toInt ∧ 0 ≤ fi ∧ fi / 10 < 5 ∧ 1 ≤ fi % 10 ∧ fi % 10 ≤ 6)) → Q (some (.int (-1))) p) (k1 : (0 ≤ xi) → (xi < (rI p 66 6).toInt) → (0 ≤ fi) → (fi / 10 < 5) → (1 ≤ fi % 10) → (fi % 10 ≤ 6) → (4 ≤ (rI p 72 xi.toNat).toInt) → Q (some (.int (-3))) p) (k2 : ∀ z : Int32, ∀ p2 : xH, p2 = (wV (wV (wV p 73 ((4 * xi + (rI p 72 xi.toNat).toInt).toNat) (.int (f / 10))) 74 ((4 * xi + (rI p 72 xi.toNat).toInt).toNat) (.int (f - f / 10 * 10))) 72 xi.toNat (.int ((rI p 72 xi.toNat) + 1))) → (0 ≤ xi) → (xi < (rI p 66 6).toInt) → (0 ≤ fi) → (fi / 10 < 5) → (1 ≤ fi % 10) → (fi % 10 ≤ 6) → ((rI p 72 xi.toNat).toInt < 4) → (z.toInt = (rI p 72 xi.toNat).toInt + 1) → Q (some (.int z)) p2) : hP ro n d (12, 3, 1, 1, k187) 0 (lv_args 0 [.ref 66, .int x, .int f]) [] p Q := by
  subst hx
  subst hf
  refine hp_id (ls := [(0, .ref 66), (1, .int x), (2, .int f)]) ?_
  refine hp_s (pc' := 1) (st' := [.ref 66]) rfl rfl rfl ?_
  refine hp_s (pc' := 2) (st' := [.int x, .ref 66]) rfl rfl rfl ?_
  refine hp_cv (r := 66) (o := 12) (kd := 1) (as := [.int x]) (rest := []) (pc' := 5) rfl rfl rfl rfl rfl rfl rfl rfl rfl (fun d1 => ?_)
  refine s_isPerson (xi := x.toInt) rfl (by first | assumption | omega) ?_ ?_
  ·
    intro h1 h2
    refine hp_id (st := [.int 1]) ?_
    refine hp_go (pc' := 8) rfl rfl rfl ?_
    refine hp_s (pc' := 9) (st' := [.int f]) rfl rfl rfl ?_
    refine hp_if (pc' := 12) (t := 35) (a := f.toInt) rfl rfl rfl rfl (fun (h3 : f.toInt < 0) => ?_) (fun (h4 : ¬ (f.toInt < 0)) => ?_)
    ·
      refine hp_s (pc' := 36) (st' := [.int (-1)]) rfl rfl rfl ?_
      refine hp_ri rfl rfl ?_
      first | (exact k0 (by first | assumption | omega)) | (exact k2 _ _ (by subst_vars; repeat' (first | with_reducible rfl | omega | rfl | congr 1)) (by first | assumption | omega) (by first | assumption | omega) (by first | assumption | omega) (by first | assumption | omega) (by first | assumption | omega) (by first | assumption | omega) (by first | assumption | omega) (by first | assumption | omega)) | (exfalso; omega)
    ·
      refine hp_s (pc' := 13) (st' := [.int f]) rfl rfl rfl ?_
      refine hp_s (pc' := 15) (st' := [.int 10, .int f]) rfl rfl rfl ?_
      refine hp_z (pc' := 16) (e := f / 10) (st' := []) rfl rfl rfl ?_
      intro z1 hz1
      have ez1 := i_div hz1 (show f.toInt = f.toInt from rfl) (show (10 : Int32).toInt = 10 from by decide) (by decide)
      refine hp_s (pc' := 17) (st' := [.int 5, .int z1]) rfl rfl rfl ?_
      refine hp_ic (pc' := 20) (t := 35) (a := (f.toInt / 10)) (b := 5) rfl rfl rfl (by omega) (by decide) (fun (h5 : 5 ≤ (f.toInt / 10)) => ?_) (fun (h6 : ¬ (5 ≤ (f.toInt / 10))) => ?_)
      ·
        refine hp_s (pc' := 36) (st' := [.int (-1)]) rfl rfl rfl ?_
        refine hp_ri rfl rfl ?_
        first | (exact k0 (by first | assumption | omega)) | (exact k2 _ _ (by subst_vars; repeat' (first | with_reducible rfl | omega | rfl | congr 1)) (by first | assumption | omega) (by first | assumption | omega) (by first | assumption | omega) (by first | assumption | omega) (by first | assumption | omega) (by first | assumption | omega) (by first | assumption | omega) (by first | assumption | omega)) | (exfalso; omega)
      ·
        refine hp_s (pc' := 21) (st' := [.int f]) rfl rfl rfl ?_
        refine hp_s (pc' := 23) (st' := [.int 10, .int f]) rfl rfl rfl ?_
        refine hp_z (pc' := 24) (e := f - f / 10 * 10) (st' := []) rfl rfl rfl ?_
        intro z2 hz2
        have ez2 := i_rem hz2 (show f.toInt = f.toInt from rfl) (show (10 : Int32).toInt = 10 from by decide) (by decide)
        refine hp_i2l (pc' := 25) rfl rfl ?_
        intro z3 hz3 ez3
        refine hp_s (pc' := 26) (st' := [.long 1, .long z3]) rfl rfl rfl ?_
        refine hp_s (pc' := 29) (st' := [.long 6, .long 1, .long z3]) rfl rfl rfl ?_
        refine hp_cs (kd := 0) (as := [.long z3, .long 1, .long 6]) (rest := []) (pc' := 32) rfl rfl rfl rfl rfl rfl rfl (fun d2 => ?_)
        refine s_within (vi := (f.toInt % 10)) (ez3.trans (by omega)) (ai := 1) (by decide) (bi := 6) (by decide) ?_ ?_
        ·
          intro h7 h8
          refine hp_id (st := [.int 1]) ?_
          refine hp_go (pc' := 37) rfl rfl rfl ?_
          refine hp_s (pc' := 38) (st' := [.ref 66]) rfl rfl rfl ?_
          refine hp_getr (k := 8) (w := .ref 72) (pc' := 41) rfl rfl rfl rfl rfl ?_
          refine hp_s (pc' := 42) (st' := [.int x, .ref 72]) rfl rfl rfl ?_
          refine hp_ld (t := 100) (v := (rI p 72 x.toInt.toNat)) rfl (.inl rfl) rfl rfl rfl ?_
          intro (g1a : 0 ≤ x.toInt) (g1b : x.toInt < 7)
          refine hp_s (pc' := 44) (st' := [.int 4, .int (rI p 72 x.toInt.toNat)]) rfl rfl rfl ?_
          refine hp_ic (pc' := 47) (t := 50) (a := (rI p 72 x.toInt.toNat).toInt) (b := 4) rfl rfl rfl rfl (by decide) (fun (h9 : (rI p 72 x.toInt.toNat).toInt ≠ 4) => ?_) (fun (h10 : ¬ ((rI p 72 x.toInt.toNat).toInt ≠ 4)) => ?_)
          ·
            refine hp_s (pc' := 51) (st' := [.ref 66]) rfl rfl rfl ?_
            refine hp_getr (k := 9) (w := .ref 73) (pc' := 54) rfl rfl rfl rfl rfl ?_
            refine hp_s (pc' := 55) (st' := [.int 4, .ref 73]) rfl rfl rfl ?_
            refine hp_s (pc' := 56) (st' := [.int x, .int 4, .ref 73]) rfl rfl rfl ?_
            refine hp_z (pc' := 57) (e := 4 * x) (st' := [.ref 73]) rfl rfl rfl ?_
            intro z4 hz4
            have ez4 := i_mul hz4 (show (4 : Int32).toInt = 4 from by decide) (show x.toInt = x.toInt from rfl)
            refine hp_s (pc' := 58) (st' := [.ref 66, .int z4, .ref 73]) rfl rfl rfl ?_
            refine hp_getr (k := 8) (w := .ref 72) (pc' := 61) rfl rfl rfl rfl rfl ?_
            refine hp_s (pc' := 62) (st' := [.int x, .ref 72, .int z4, .ref 73]) rfl rfl rfl ?_
            refine hp_ld (t := 100) (v := (rI p 72 x.toInt.toNat)) rfl (.inl rfl) rfl rfl rfl ?_
            intro (g2a : 0 ≤ x.toInt) (g2b : x.toInt < 7)
            refine hp_z (pc' := 64) (e := z4 + (rI p 72 x.toInt.toNat)) (st' := [.ref 73]) rfl rfl rfl ?_
            intro z5 hz5
            have ez5 := i_add hz5 (show z4.toInt = z4.toInt from rfl) (show (rI p 72 x.toInt.toNat).toInt = (rI p 72 x.toInt.toNat).toInt from rfl)
            refine hp_s (pc' := 65) (st' := [.int f, .int z5, .ref 73]) rfl rfl rfl ?_
            refine hp_s (pc' := 67) (st' := [.int 10, .int f, .int z5, .ref 73]) rfl rfl rfl ?_
            refine hp_z (pc' := 68) (e := f / 10) (st' := [.int z5, .ref 73]) rfl rfl rfl ?_
            intro z6 hz6
            have ez6 := i_div hz6 (show f.toInt = f.toInt from rfl) (show (10 : Int32).toInt = 10 from by decide) (by decide)
            refine hp_st (t := 100) rfl (.inl rfl) rfl rfl ?_
            intro p1 wp1 (p1a : 0 ≤ z5.toInt) (p1b : z5.toInt < 28) ep1
            refine hp_s (pc' := 70) (st' := [.ref 66]) rfl rfl rfl ?_
            refine hp_getr (k := 10) (w := .ref 74) (pc' := 73) rfl rfl rfl rfl rfl ?_
            refine hp_s (pc' := 74) (st' := [.int 4, .ref 74]) rfl rfl rfl ?_
            refine hp_s (pc' := 75) (st' := [.int x, .int 4, .ref 74]) rfl rfl rfl ?_
            refine hp_z (pc' := 76) (e := 4 * x) (st' := [.ref 74]) rfl rfl rfl ?_
            intro z7 hz7
            have ez7 := i_mul hz7 (show (4 : Int32).toInt = 4 from by decide) (show x.toInt = x.toInt from rfl)
            refine hp_s (pc' := 77) (st' := [.ref 66, .int z7, .ref 74]) rfl rfl rfl ?_
            refine hp_getr (k := 8) (w := .ref 72) (pc' := 80) rfl rfl rfl rfl rfl ?_
            refine hp_s (pc' := 81) (st' := [.int x, .ref 72, .int z7, .ref 74]) rfl rfl rfl ?_
            refine hp_ld (t := 100) (v := (rI p 72 x.toInt.toNat)) rfl (.inl rfl) rfl rfl (by rw [ep1, rI_o (by decide)]) ?_
            intro (g3a : 0 ≤ x.toInt) (g3b : x.toInt < 7)
            refine hp_z (pc' := 83) (e := z7 + (rI p 72 x.toInt.toNat)) (st' := [.ref 74]) rfl rfl rfl ?_
            intro z8 hz8
            have ez8 := i_add hz8 (show z7.toInt = z7.toInt from rfl) (show (rI p 72 x.toInt.toNat).toInt = (rI p 72 x.toInt.toNat).toInt from rfl)
            refine hp_s (pc' := 84) (st' := [.int f, .int z8, .ref 74]) rfl rfl rfl ?_
            refine hp_s (pc' := 86) (st' := [.int 10, .int f, .int z8, .ref 74]) rfl rfl rfl ?_
            refine hp_z (pc' := 87) (e := f - f / 10 * 10) (st' := [.int z8, .ref 74]) rfl rfl rfl ?_
            intro z9 hz9
            have ez9 := i_rem hz9 (show f.toInt = f.toInt from rfl) (show (10 : Int32).toInt = 10 from by decide) (by decide)
            refine hp_st (t := 100) rfl (.inl rfl) rfl rfl ?_
            intro p2 wp2 (p2a : 0 ≤ z8.toInt) (p2b : z8.toInt < 28) ep2
            refine hp_s (pc' := 89) (st' := [.ref 66]) rfl rfl rfl ?_
            refine hp_getr (k := 8) (w := .ref 72) (pc' := 92) rfl rfl rfl rfl rfl ?_
            refine hp_s (pc' := 93) (st' := [.int x, .ref 72]) rfl rfl rfl ?_
            refine hp_s (pc' := 94) (st' := [.int x, .ref 72, .int x, .ref 72]) rfl rfl rfl ?_
            refine hp_ld (t := 100) (v := (rI p 72 x.toInt.toNat)) rfl (.inl rfl) rfl rfl (by rw [ep2, rI_o (by decide), ep1, rI_o (by decide)]) ?_
            intro (g4a : 0 ≤ x.toInt) (g4b : x.toInt < 7)
            refine hp_s (pc' := 96) (st' := [.int 1, .int (rI p 72 x.toInt.toNat), .int x, .ref 72]) rfl rfl rfl ?_
            refine hp_z (pc' := 97) (e := (rI p 72 x.toInt.toNat) + 1) (st' := [.int x, .ref 72]) rfl rfl rfl ?_
            intro z10 hz10
            have ez10 := i_add hz10 (show (rI p 72 x.toInt.toNat).toInt = (rI p 72 x.toInt.toNat).toInt from rfl) (show (1 : Int32).toInt = 1 from by decide)
            refine hp_st (t := 100) rfl (.inl rfl) rfl rfl ?_
            intro p3 wp3 (p3a : 0 ≤ x.toInt) (p3b : x.toInt < 7) ep3
            refine hp_s (pc' := 99) (st' := [.ref 66]) rfl rfl rfl ?_
            refine hp_getr (k := 8) (w := .ref 72) (pc' := 102) rfl rfl rfl rfl rfl ?_
            refine hp_s (pc' := 103) (st' := [.int x, .ref 72]) rfl rfl rfl ?_
            refine hp_ld (t := 100) (v := z10) rfl (.inl rfl) rfl rfl (by rw [ep3, rI_eq wp3 (by show _ < 7; omega)]) ?_
            intro (g5a : 0 ≤ x.toInt) (g5b : x.toInt < 7)
            refine hp_ri rfl rfl ?_
            first | (exact k0 (by first | assumption | omega)) | (exact k1 (by first | assumption | omega) (by first | assumption | omega) (by first | assumption | omega) (by first | assumption | omega) (by first | assumption | omega) (by first | assumption | omega) (by first | assumption | omega)) | (exact k2 _ _ (by subst_vars; repeat' (first | with_reducible rfl | omega | rfl | congr 1)) (by first | assumption | omega) (by first | assumption | omega) (by first | assumption | omega) (by first | assumption | omega) (by first | assumption | omega) (by first | assumption | omega) (by first | assumption | omega) (by first | assumption | omega)) | (exfalso; omega)
          ·
            refine hp_s (pc' := 49) (st' := [.int (-3)]) rfl rfl rfl ?_
            refine hp_ri rfl rfl ?_
            first | (exact k1 (by first | assumption | omega) (by first | assumption | omega) (by first | assumption | omega) (by first | assumption | omega) (by first | assumption | omega) (by first | assumption | omega) (by first | assumption | omega)) | (exact k2 _ _ (by subst_vars; repeat' (first | with_reducible rfl | omega | rfl | congr 1)) (by first | assumption | omega) (by first | assumption | omega) (by first | assumption | omega) (by first | assumption | omega) (by first | assumption | omega) (by first | assumption | omega) (by first | assumption | omega) (by first | assumption | omega)) | (exfalso; omega)
        ·
          intro h11
          refine hp_id (st := [.int 0]) ?_
          refine hp_go (pc' := 35) rfl rfl rfl ?_
          refine hp_s (pc' := 36) (st' := [.int (-1)]) rfl rfl rfl ?_
          refine hp_ri rfl rfl ?_
          first | (exact k0 (by first | assumption | omega)) | (exact k2 _ _ (by subst_vars; repeat' (first | with_reducible rfl | omega | rfl | congr 1)) (by first | assumption | omega) (by first | assumption | omega) (by first | assumption | omega) (by first | assumption | omega) (by first | assumption | omega) (by first | assumption | omega) (by first | assumption | omega) (by first | assumption | omega)) | (exfalso; omega)
  ·
    intro h12
    refine hp_id (st := [.int 0]) ?_
    refine hp_go (pc' := 35) rfl rfl rfl ?_
    refine hp_s (pc' := 36) (st' := [.int (-1)]) rfl rfl rfl ?_
    refine hp_ri rfl rfl ?_
    first | (exact k0 (by first | assumption | omega)) | (exact k2 _ _ (by subst_vars; repeat' (first | with_reducible rfl | omega | rfl | congr 1)) (by first | assumption | omega) (by first | assumption | omega) (by first | assumption | omega) (by first | assumption | omega) (by first | assumption | omega) (by first | assumption | omega) (by first | assumption | omega) (by first | assumption | omega)) | (exfalso; omega)
theorem s_dropErrands {ro : List (List Int32)} {n d : Nat} {p : xH} {Q : Option Value → xH → Prop} {x : Int32} {xi : Int} (hx : x.toInt = xi)  (k0 : ∀ p2 : xH, p2 = (wV p 17 xi.toNat (.int 0)) → Q (some (.int (rI p 17 xi.toNat))) p2) : hP ro n d (1, 3, 1, 1, k11) 0 (lv_args 0 [.ref 13, .int x]) [] p Q := by
  subst hx
  refine hp_id (ls := [(0, .ref 13), (1, .int x)]) ?_
  refine hp_s (pc' := 1) (st' := [.ref 13]) rfl rfl rfl ?_
  refine hp_getr (k := 4) (w := .ref 17) (pc' := 4) rfl rfl rfl rfl rfl ?_
  refine hp_s (pc' := 5) (st' := [.int x, .ref 17]) rfl rfl rfl ?_
  refine hp_ld (t := 100) (v := (rI p 17 x.toInt.toNat)) rfl (.inl rfl) rfl rfl rfl ?_
  intro (g1a : 0 ≤ x.toInt) (g1b : x.toInt < 7)
  refine hp_s (pc' := 7) (ls' := [(2, .int (rI p 17 x.toInt.toNat)), (0, .ref 13), (1, .int x)]) (st' := []) rfl rfl rfl ?_
  refine hp_s (pc' := 8) (st' := [.ref 13]) rfl rfl rfl ?_
  refine hp_getr (k := 4) (w := .ref 17) (pc' := 11) rfl rfl rfl rfl rfl ?_
  refine hp_s (pc' := 12) (st' := [.int x, .ref 17]) rfl rfl rfl ?_
  refine hp_s (pc' := 13) (st' := [.int 0, .int x, .ref 17]) rfl rfl rfl ?_
  refine hp_st (t := 100) rfl (.inl rfl) rfl rfl ?_
  intro p1 wp1 (p1a : 0 ≤ x.toInt) (p1b : x.toInt < 7) ep1
  refine hp_s (pc' := 15) (st' := [.int (rI p 17 x.toInt.toNat)]) rfl rfl rfl ?_
  refine hp_ri rfl rfl ?_
  first | (exact k0 _ (by subst_vars; rfl)) | (exfalso; omega)
theorem X_clear {ro : List (List Int32)} {n d : Nat} {p : xH} {Q : Option Value → xH → Prop} {x : Int32} {xi : Int} (hx : x.toInt = xi)  (k0 : (¬ (0 ≤ xi ∧ xi < (rI p 13 7).toInt)) → Q (some (.int (-1))) p) (k1 : ∀ p2 : xH, p2 = (wV p 17 xi.toNat (.int 0)) → (0 ≤ xi) → (xi < (rI p 13 7).toInt) → Q (some (.int (rI p 17 xi.toNat))) p2) : hP ro n d (11, 2, 1, 1, k129) 0 (lv_args 0 [.ref 0, .int x]) [] p Q := by
  subst hx
  refine hp_id (ls := [(0, .ref 0), (1, .int x)]) ?_
  refine hp_s (pc' := 1) (st' := [.ref 0]) rfl rfl rfl ?_
  refine hp_getr (k := 4) (w := .ref 13) (pc' := 4) rfl rfl rfl rfl rfl ?_
  refine hp_s (pc' := 5) (st' := [.int x, .ref 13]) rfl rfl rfl ?_
  refine hp_cv (r := 13) (o := 1) (kd := 1) (as := [.int x]) (rest := []) (pc' := 8) rfl rfl rfl rfl rfl rfl rfl rfl rfl (fun d1 => ?_)
  refine s_has (xi := x.toInt) rfl ?_ ?_
  ·
    intro h1 h2
    refine hp_id (st := [.int 1]) ?_
    refine hp_go (pc' := 13) rfl rfl rfl ?_
    refine hp_s (pc' := 14) (st' := [.ref 0]) rfl rfl rfl ?_
    refine hp_getr (k := 4) (w := .ref 13) (pc' := 17) rfl rfl rfl rfl rfl ?_
    refine hp_s (pc' := 18) (st' := [.int x, .ref 13]) rfl rfl rfl ?_
    refine hp_cv (r := 13) (o := 1) (kd := 1) (as := [.int x]) (rest := []) (pc' := 21) rfl rfl rfl rfl rfl rfl rfl rfl rfl (fun d2 => ?_)
    refine s_dropErrands (xi := x.toInt) rfl ?_
    intro p1 ep1
    refine hp_id (st := [.int (rI p 17 x.toInt.toNat)]) ?_
    refine hp_ri rfl rfl ?_
    first | (exact k0 (by first | assumption | omega)) | (exact k1 _ (by subst_vars; rfl) (by first | assumption | omega) (by first | assumption | omega)) | (exfalso; omega)
  ·
    intro h3
    refine hp_id (st := [.int 0]) ?_
    refine hp_go (pc' := 11) rfl rfl rfl ?_
    refine hp_s (pc' := 12) (st' := [.int (-1)]) rfl rfl rfl ?_
    refine hp_ri rfl rfl ?_
    first | (exact k0 (by first | assumption | omega)) | (exact k1 _ (by subst_vars; rfl) (by first | assumption | omega) (by first | assumption | omega)) | (exfalso; omega)
theorem M_clear {ro : List (List Int32)} {n d : Nat} {p : xH} {Q : Option Value → xH → Prop} {x : Int32} {xi : Int} (hx : x.toInt = xi) (pre0 : 0 ≤ (rI p 66 6).toInt) (k0 : (¬ (0 ≤ xi ∧ xi < (rI p 66 6).toInt)) → Q (some (.int (-1))) p) (k1 : ∀ p2 : xH, p2 = (wV p 72 xi.toNat (.int 0)) → (0 ≤ xi) → (xi < (rI p 66 6).toInt) → Q (some (.int (rI p 72 xi.toNat))) p2) : hP ro n d (12, 3, 1, 1, k188) 0 (lv_args 0 [.ref 66, .int x]) [] p Q := by
  subst hx
  refine hp_id (ls := [(0, .ref 66), (1, .int x)]) ?_
  refine hp_s (pc' := 1) (st' := [.ref 66]) rfl rfl rfl ?_
  refine hp_s (pc' := 2) (st' := [.int x, .ref 66]) rfl rfl rfl ?_
  refine hp_cv (r := 66) (o := 12) (kd := 1) (as := [.int x]) (rest := []) (pc' := 5) rfl rfl rfl rfl rfl rfl rfl rfl rfl (fun d1 => ?_)
  refine s_isPerson (xi := x.toInt) rfl (by first | assumption | omega) ?_ ?_
  ·
    intro h1 h2
    refine hp_id (st := [.int 1]) ?_
    refine hp_go (pc' := 10) rfl rfl rfl ?_
    refine hp_s (pc' := 11) (st' := [.ref 66]) rfl rfl rfl ?_
    refine hp_getr (k := 8) (w := .ref 72) (pc' := 14) rfl rfl rfl rfl rfl ?_
    refine hp_s (pc' := 15) (st' := [.int x, .ref 72]) rfl rfl rfl ?_
    refine hp_ld (t := 100) (v := (rI p 72 x.toInt.toNat)) rfl (.inl rfl) rfl rfl rfl ?_
    intro (g1a : 0 ≤ x.toInt) (g1b : x.toInt < 7)
    refine hp_s (pc' := 17) (ls' := [(2, .int (rI p 72 x.toInt.toNat)), (0, .ref 66), (1, .int x)]) (st' := []) rfl rfl rfl ?_
    refine hp_s (pc' := 18) (st' := [.ref 66]) rfl rfl rfl ?_
    refine hp_getr (k := 8) (w := .ref 72) (pc' := 21) rfl rfl rfl rfl rfl ?_
    refine hp_s (pc' := 22) (st' := [.int x, .ref 72]) rfl rfl rfl ?_
    refine hp_s (pc' := 23) (st' := [.int 0, .int x, .ref 72]) rfl rfl rfl ?_
    refine hp_st (t := 100) rfl (.inl rfl) rfl rfl ?_
    intro p1 wp1 (p1a : 0 ≤ x.toInt) (p1b : x.toInt < 7) ep1
    refine hp_s (pc' := 25) (st' := [.int (rI p 72 x.toInt.toNat)]) rfl rfl rfl ?_
    refine hp_ri rfl rfl ?_
    first | (exact k0 (by first | assumption | omega)) | (exact k1 _ (by subst_vars; rfl) (by first | assumption | omega) (by first | assumption | omega)) | (exfalso; omega)
  ·
    intro h3
    refine hp_id (st := [.int 0]) ?_
    refine hp_go (pc' := 8) rfl rfl rfl ?_
    refine hp_s (pc' := 9) (st' := [.int (-1)]) rfl rfl rfl ?_
    refine hp_ri rfl rfl ?_
    first | (exact k0 (by first | assumption | omega)) | (exact k1 _ (by subst_vars; rfl) (by first | assumption | omega) (by first | assumption | omega)) | (exfalso; omega)
