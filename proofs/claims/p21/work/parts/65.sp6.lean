/-! contracts of methods, walked -/
theorem s_has {ro : List (List Int32)} {n d : Nat} {p : xH} {Q : Option Value → xH → Prop} {x : Int32} {xi : Int} (hx : x.toInt = xi)  (k0 : (0 ≤ xi) → (xi < (rI p 13 7).toInt) → Q (some (.int (1))) p) (k1 : (¬ (0 ≤ xi ∧ xi < (rI p 13 7).toInt)) → Q (some (.int (0))) p) : hP ro n d (1, 2, 1, 2, k6) 0 (lv_args 0 [.ref 13, .int x]) [] p Q := by
  subst hx
  refine hp_id (ls := [(0, .ref 13), (1, .int x)]) ?_
  refine hp_s (pc' := 1) (st' := [.int x]) rfl rfl rfl ?_
  refine hp_if (pc' := 4) (t := 16) (a := x.toInt) rfl rfl rfl rfl (fun (h1 : x.toInt < 0) => ?_) (fun (h2 : ¬ (x.toInt < 0)) => ?_)
  ·
    refine hp_s (pc' := 17) (st' := [.int 0]) rfl rfl rfl ?_
    refine hp_rb rfl rfl (fun _ => ?_)
    first | (exact k1 (by first | assumption | omega)) | (exfalso; omega)
  ·
    refine hp_s (pc' := 5) (st' := [.int x]) rfl rfl rfl ?_
    refine hp_s (pc' := 6) (st' := [.ref 13, .int x]) rfl rfl rfl ?_
    refine hp_get (k := 7) (pc' := 9) (v := (rI p 13 7)) rfl rfl rfl rfl rfl rfl ?_
    refine hp_ic (pc' := 12) (t := 16) (a := x.toInt) (b := (rI p 13 7).toInt) rfl rfl rfl rfl rfl (fun (h3 : (rI p 13 7).toInt ≤ x.toInt) => ?_) (fun (h4 : ¬ ((rI p 13 7).toInt ≤ x.toInt)) => ?_)
    ·
      refine hp_s (pc' := 17) (st' := [.int 0]) rfl rfl rfl ?_
      refine hp_rb rfl rfl (fun _ => ?_)
      first | (exact k1 (by first | assumption | omega)) | (exfalso; omega)
    ·
      refine hp_s (pc' := 13) (st' := [.int 1]) rfl rfl rfl ?_
      refine hp_go (pc' := 17) rfl rfl rfl ?_
      refine hp_rb rfl rfl (fun _ => ?_)
      first | (exact k0 (by first | assumption | omega) (by first | assumption | omega)) | (exfalso; omega)
theorem s_isPerson {ro : List (List Int32)} {n d : Nat} {p : xH} {Q : Option Value → xH → Prop} {x : Int32} {xi : Int} (hx : x.toInt = xi) (pre0 : 0 ≤ (rI p 66 6).toInt) (k0 : (0 ≤ xi) → (xi < (rI p 66 6).toInt) → Q (some (.int (1))) p) (k1 : (¬ (0 ≤ xi ∧ xi < (rI p 66 6).toInt)) → Q (some (.int (0))) p) : hP ro n d (12, 2, 1, 2, k181) 0 (lv_args 0 [.ref 66, .int x]) [] p Q := by
  subst hx
  refine hp_id (ls := [(0, .ref 66), (1, .int x)]) ?_
  refine hp_s (pc' := 1) (st' := [.int x]) rfl rfl rfl ?_
  refine hp_i2l (pc' := 2) rfl rfl ?_
  intro z1 hz1 ez1
  refine hp_s (pc' := 3) (st' := [.long 0, .long z1]) rfl rfl rfl ?_
  refine hp_s (pc' := 4) (st' := [.ref 66, .long 0, .long z1]) rfl rfl rfl ?_
  refine hp_get (k := 6) (pc' := 7) (v := (rI p 66 6)) rfl rfl rfl rfl rfl rfl ?_
  refine hp_s (pc' := 8) (st' := [.int 1, .int (rI p 66 6), .long 0, .long z1]) rfl rfl rfl ?_
  refine hp_z (pc' := 9) (e := (rI p 66 6) - 1) (st' := [.long 0, .long z1]) rfl rfl rfl ?_
  intro z2 hz2
  have ez2 := i_sub hz2 (show (rI p 66 6).toInt = (rI p 66 6).toInt from rfl) (show (1 : Int32).toInt = 1 from by decide)
  refine hp_i2l (pc' := 10) rfl rfl ?_
  intro z3 hz3 ez3
  refine hp_cs (kd := 0) (as := [.long z1, .long 0, .long z3]) (rest := []) (pc' := 13) rfl rfl rfl rfl rfl rfl rfl (fun d1 => ?_)
  refine s_within (vi := x.toInt) ez1 (ai := 0) (by decide) (bi := z2.toInt) ez3 ?_ ?_
  ·
    intro h1 h2
    refine hp_id (st := [.int 1]) ?_
    refine hp_rb rfl rfl (fun _ => ?_)
    first | (exact k0 (by first | assumption | omega) (by first | assumption | omega)) | (exfalso; omega)
  ·
    intro h3
    refine hp_id (st := [.int 0]) ?_
    refine hp_rb rfl rfl (fun _ => ?_)
    first | (exact k1 (by first | assumption | omega)) | (exfalso; omega)
theorem s_isMinute {ro : List (List Int32)} {n d : Nat} {p : xH} {Q : Option Value → xH → Prop} {x : Int32} {xi : Int} (hx : x.toInt = xi)  (k0 : (0 ≤ xi) → (xi < 30) → Q (some (.int (1))) p) (k1 : (¬ (0 ≤ xi ∧ xi < 30)) → Q (some (.int (0))) p) : hP ro n d (11, 1, 0, 2, k173) 0 (lv_args 0 [.int x]) [] p Q := by
  subst hx
  refine hp_id (ls := [(0, .int x)]) ?_
  refine hp_s (pc' := 1) (st' := [.int x]) rfl rfl rfl ?_
  refine hp_if (pc' := 4) (t := 14) (a := x.toInt) rfl rfl rfl rfl (fun (h1 : x.toInt < 0) => ?_) (fun (h2 : ¬ (x.toInt < 0)) => ?_)
  ·
    refine hp_s (pc' := 15) (st' := [.int 0]) rfl rfl rfl ?_
    refine hp_rb rfl rfl (fun _ => ?_)
    first | (exact k1 (by first | assumption | omega)) | (exfalso; omega)
  ·
    refine hp_s (pc' := 5) (st' := [.int x]) rfl rfl rfl ?_
    refine hp_s (pc' := 7) (st' := [.int 30, .int x]) rfl rfl rfl ?_
    refine hp_ic (pc' := 10) (t := 14) (a := x.toInt) (b := 30) rfl rfl rfl rfl (by decide) (fun (h3 : 30 ≤ x.toInt) => ?_) (fun (h4 : ¬ (30 ≤ x.toInt)) => ?_)
    ·
      refine hp_s (pc' := 15) (st' := [.int 0]) rfl rfl rfl ?_
      refine hp_rb rfl rfl (fun _ => ?_)
      first | (exact k1 (by first | assumption | omega)) | (exfalso; omega)
    ·
      refine hp_s (pc' := 11) (st' := [.int 1]) rfl rfl rfl ?_
      refine hp_go (pc' := 15) rfl rfl rfl ?_
      refine hp_rb rfl rfl (fun _ => ?_)
      first | (exact k0 (by first | assumption | omega) (by first | assumption | omega)) | (exfalso; omega)
theorem lp_61 {ro : List (List Int32)} {d : Nat} {Q : Option Value → xH → Prop} {x f t s : Int32} {p0 : xH} (g0 : 0 ≤ x.toInt) (g1 : x.toInt < 7) (g2 : 0 ≤ f.toInt) (g3 : f.toInt ≤ t.toInt) (g4 : t.toInt < 30) (K : ∀ (z : Int32) (p2 : xH), z.toInt = t.toInt - f.toInt + 1 → hOn 3 (fun j => if 30 * x.toInt.toNat + f.toInt.toNat ≤ j ∧ j < 30 * x.toInt.toNat + t.toInt.toNat + 1 then .int s else rV p0 3 j) p0 p2 → Q (some (.int z)) p2) : ∀ (n : Nat) (k : Int32) (p : xH), (f.toInt ≤ k.toInt) → (k.toInt ≤ t.toInt + 1) → (hOn 3 (fun j => if 30 * x.toInt.toNat + f.toInt.toNat ≤ j ∧ j < 30 * x.toInt.toNat + k.toInt.toNat then .int s else rV p0 3 j) p0 p) → hP ro n d (5, 6, 1, 1, k61) 3 [(5, .int k), (0, .ref 1), (1, .int x), (2, .int f), (3, .int t), (4, .int s)] [] p Q := by
  intro n
  induction n with
  | zero => intros; exact hp_0
  | succ n ih =>
    intro k p h1 h2 hO
    refine hp_s1 (pc' := 5) (st' := [.int k]) rfl rfl rfl ?_
    refine hp_s (pc' := 6) (st' := [.int t, .int k]) rfl rfl rfl ?_
    refine hp_ic (pc' := 9) (t := 29) (a := k.toInt) (b := t.toInt) rfl rfl rfl rfl rfl (fun (h1 : t.toInt < k.toInt) => ?_) (fun (h2 : ¬ (t.toInt < k.toInt)) => ?_)
    ·
      refine hp_s (pc' := 30) (st' := [.int t]) rfl rfl rfl ?_
      refine hp_s (pc' := 31) (st' := [.int f, .int t]) rfl rfl rfl ?_
      refine hp_z (pc' := 32) (e := t - f) (st' := []) rfl rfl rfl ?_
      intro z1 hz1
      have ez1 := i_sub hz1 (show t.toInt = t.toInt from rfl) (show f.toInt = f.toInt from rfl)
      refine hp_s (pc' := 33) (st' := [.int 1, .int z1]) rfl rfl rfl ?_
      refine hp_z (pc' := 34) (e := z1 + 1) (st' := []) rfl rfl rfl ?_
      intro z2 hz2
      have ez2 := i_add hz2 (show z1.toInt = z1.toInt from rfl) (show (1 : Int32).toInt = 1 from by decide)
      refine hp_ri rfl rfl ?_
      exact K _ _ (by omega) (hO.eq (fun j => by rw [show 30 * x.toInt.toNat + k.toInt.toNat = 30 * x.toInt.toNat + t.toInt.toNat + 1 by omega]))
    ·
      refine hp_s (pc' := 10) (st' := [.ref 1]) rfl rfl rfl ?_
      refine hp_getr (k := 1) (w := .ref 3) (pc' := 13) rfl rfl rfl rfl rfl ?_
      refine hp_s (pc' := 14) (st' := [.int x, .ref 3]) rfl rfl rfl ?_
      refine hp_s (pc' := 16) (st' := [.int 30, .int x, .ref 3]) rfl rfl rfl ?_
      refine hp_z (pc' := 17) (e := x * 30) (st' := [.ref 3]) rfl rfl rfl ?_
      intro z3 hz3
      have ez3 := i_mul hz3 (show x.toInt = x.toInt from rfl) (show (30 : Int32).toInt = 30 from by decide)
      refine hp_s (pc' := 19) (st' := [.int k, .int z3, .ref 3]) rfl rfl rfl ?_
      refine hp_z (pc' := 20) (e := z3 + k) (st' := [.ref 3]) rfl rfl rfl ?_
      intro z4 hz4
      have ez4 := i_add hz4 (show z3.toInt = z3.toInt from rfl) (show k.toInt = k.toInt from rfl)
      refine hp_s (pc' := 22) (st' := [.int s, .int z4, .ref 3]) rfl rfl rfl ?_
      refine hp_st (t := 100) rfl (.inl rfl) rfl rfl ?_
      intro p1 wp1 (p1a : 0 ≤ z4.toInt) (p1b : z4.toInt < 210) ep1
      refine hp_inc (L := fun z => [(5, .int z), (0, .ref 1), (1, .int x), (2, .int f), (3, .int t), (4, .int s)]) (pc' := 26) rfl rfl rfl (fun _ => rfl) rfl ?_
      intro z5 hz5
      have ez5 := i_add hz5 (show k.toInt = k.toInt from rfl) (show (Int32.ofInt 1).toInt = 1 from by decide)
      refine hp_go (pc' := 3) rfl rfl rfl ?_
      refine ih _ _ (by omega) (by omega) ?_
      rw [ep1]
      exact (hO.w wp1 (by show _ < 210; omega)).eq (fun j => if_fill (by omega) (by omega) (by omega))
theorem s_tellDay {ro : List (List Int32)} {n d : Nat} {p : xH} {Q : Option Value → xH → Prop} {x : Int32} {xi : Int} {f : Int32} {fi : Int} {t : Int32} {ti : Int} {s : Int32} {si : Int} (hx : x.toInt = xi) (hf : f.toInt = fi) (ht : t.toInt = ti) (hs : s.toInt = si) (pre0 : 0 ≤ xi) (pre1 : xi < 7) (pre2 : 0 ≤ fi) (pre3 : fi ≤ ti) (pre4 : ti < 30) (k0 : ∀ z : Int32, ∀ p2 : xH, (z.toInt = ti - fi + 1) → (hOn 3 (fun j => if 30 * xi.toNat + fi.toNat ≤ j ∧ j < 30 * xi.toNat + ti.toNat + 1 then .int s else rV p 3 j) p p2) → Q (some (.int z)) p2) : hP ro n d (5, 6, 1, 1, k61) 0 (lv_args 0 [.ref 1, .int x, .int f, .int t, .int s]) [] p Q := by
  subst hx
  subst hf
  subst ht
  subst hs
  refine hp_id (ls := [(0, .ref 1), (1, .int x), (2, .int f), (3, .int t), (4, .int s)]) ?_
  refine hp_s (pc' := 1) (st' := [.int f]) rfl rfl rfl ?_
  refine hp_s (pc' := 3) (ls' := [(5, .int f), (0, .ref 1), (1, .int x), (2, .int f), (3, .int t), (4, .int s)]) (st' := []) rfl rfl rfl ?_
  exact lp_61 (x := x) (p0 := p) (by omega) (by omega) (by omega) (by omega) (by omega) (fun z p2 e h => k0 z p2 e h) n f _ (by omega) (by omega) ((hOn.refl 3 _).eq (fun j => by rw [if_neg (by omega)]))
theorem X_go {ro : List (List Int32)} {n d : Nat} {p : xH} {Q : Option Value → xH → Prop} {x : Int32} {xi : Int} {f : Int32} {fi : Int} {s : Int32} {si : Int} (hx : x.toInt = xi) (hf : f.toInt = fi) (hs : s.toInt = si) (pre0 : (rI p 13 7).toInt ≤ 7) (k0 : (¬ (0 ≤ xi ∧ xi < (rI p 13 7).toInt ∧ 0 ≤ fi ∧ fi / 100 ≤ fi % 100 ∧ fi % 100 < 30 ∧ -1 ≤ si ∧ si < 5)) → Q (some (.int (-1))) p) (k1 : ∀ z : Int32, ∀ p2 : xH, (0 ≤ xi) → (xi < (rI p 13 7).toInt) → (0 ≤ fi) → (fi / 100 ≤ fi % 100) → (fi % 100 < 30) → (-1 ≤ si) → (si < 5) → (z.toInt = fi % 100 - fi / 100 + 1) → (hOn 3 (fun j => if 30 * xi.toNat + (fi / 100).toNat ≤ j ∧ j < 30 * xi.toNat + (fi % 100).toNat + 1 then .int s else rV p 3 j) p p2) → Q (some (.int z)) p2) : hP ro n d (11, 6, 1, 1, k149) 0 (lv_args 0 [.ref 0, .int x, .int f, .int s]) [] p Q := by
  subst hx
  subst hf
  subst hs
  refine hp_id (ls := [(0, .ref 0), (1, .int x), (2, .int f), (3, .int s)]) ?_
  refine hp_s (pc' := 1) (st' := [.ref 0]) rfl rfl rfl ?_
  refine hp_getr (k := 4) (w := .ref 13) (pc' := 4) rfl rfl rfl rfl rfl ?_
  refine hp_s (pc' := 5) (st' := [.int x, .ref 13]) rfl rfl rfl ?_
  refine hp_cv (r := 13) (o := 1) (kd := 1) (as := [.int x]) (rest := []) (pc' := 8) rfl rfl rfl rfl rfl rfl rfl rfl rfl (fun d1 => ?_)
  refine s_has (xi := x.toInt) rfl ?_ ?_
  ·
    intro h1 h2
    refine hp_id (st := [.int 1]) ?_
    refine hp_go (pc' := 11) rfl rfl rfl ?_
    refine hp_s (pc' := 12) (st' := [.int f]) rfl rfl rfl ?_
    refine hp_if (pc' := 15) (t := 17) (a := f.toInt) rfl rfl rfl rfl (fun (h3 : 0 ≤ f.toInt) => ?_) (fun (h4 : ¬ (0 ≤ f.toInt)) => ?_)
    ·
      refine hp_s (pc' := 18) (st' := [.int f]) rfl rfl rfl ?_
      refine hp_s (pc' := 20) (st' := [.int 100, .int f]) rfl rfl rfl ?_
      refine hp_z (pc' := 21) (e := f / 100) (st' := []) rfl rfl rfl ?_
      intro z1 hz1
      have ez1 := i_div hz1 (show f.toInt = f.toInt from rfl) (show (100 : Int32).toInt = 100 from by decide) (by decide)
      refine hp_s (pc' := 23) (ls' := [(4, .int z1), (0, .ref 0), (1, .int x), (2, .int f), (3, .int s)]) (st' := []) rfl rfl rfl ?_
      refine hp_s (pc' := 24) (st' := [.int f]) rfl rfl rfl ?_
      refine hp_s (pc' := 26) (st' := [.int 100, .int f]) rfl rfl rfl ?_
      refine hp_z (pc' := 27) (e := f - f / 100 * 100) (st' := []) rfl rfl rfl ?_
      intro z2 hz2
      have ez2 := i_rem hz2 (show f.toInt = f.toInt from rfl) (show (100 : Int32).toInt = 100 from by decide) (by decide)
      refine hp_s (pc' := 29) (ls' := [(5, .int z2), (4, .int z1), (0, .ref 0), (1, .int x), (2, .int f), (3, .int s)]) (st' := []) rfl rfl rfl ?_
      refine hp_s (pc' := 31) (st' := [.int z1]) rfl rfl rfl ?_
      refine hp_s (pc' := 33) (st' := [.int z2, .int z1]) rfl rfl rfl ?_
      refine hp_ic (pc' := 36) (t := 54) (a := (f.toInt / 100)) (b := (f.toInt % 100)) rfl rfl rfl (by omega) (by omega) (fun (h5 : (f.toInt % 100) < (f.toInt / 100)) => ?_) (fun (h6 : ¬ ((f.toInt % 100) < (f.toInt / 100))) => ?_)
      ·
        refine hp_s (pc' := 55) (st' := [.int (-1)]) rfl rfl rfl ?_
        refine hp_ri rfl rfl ?_
        first | (exact k0 (by first | assumption | omega)) | (exact k1 _ _ (by first | assumption | omega) (by first | assumption | omega) (by first | assumption | omega) (by first | assumption | omega) (by first | assumption | omega) (by first | assumption | omega) (by first | assumption | omega) (by first | assumption | omega) (by first | assumption | omega)) | (exfalso; omega)
      ·
        refine hp_s (pc' := 38) (st' := [.int z2]) rfl rfl rfl ?_
        refine hp_cs (kd := 0) (as := [.int z2]) (rest := []) (pc' := 41) rfl rfl rfl rfl rfl rfl rfl (fun d2 => ?_)
        refine s_isMinute (xi := (f.toInt % 100)) (by omega) ?_ ?_
        ·
          intro h7 h8
          refine hp_id (st := [.int 1]) ?_
          refine hp_go (pc' := 44) rfl rfl rfl ?_
          refine hp_s (pc' := 45) (st' := [.int s]) rfl rfl rfl ?_
          refine hp_s (pc' := 46) (st' := [.int (-1), .int s]) rfl rfl rfl ?_
          refine hp_ic (pc' := 49) (t := 54) (a := s.toInt) (b := (-1)) rfl rfl rfl rfl (by decide) (fun (h9 : s.toInt < (-1)) => ?_) (fun (h10 : ¬ (s.toInt < (-1))) => ?_)
          ·
            refine hp_s (pc' := 55) (st' := [.int (-1)]) rfl rfl rfl ?_
            refine hp_ri rfl rfl ?_
            first | (exact k0 (by first | assumption | omega)) | (exact k1 _ _ (by first | assumption | omega) (by first | assumption | omega) (by first | assumption | omega) (by first | assumption | omega) (by first | assumption | omega) (by first | assumption | omega) (by first | assumption | omega) (by first | assumption | omega) (by first | assumption | omega)) | (exfalso; omega)
          ·
            refine hp_s (pc' := 50) (st' := [.int s]) rfl rfl rfl ?_
            refine hp_s (pc' := 51) (st' := [.int 5, .int s]) rfl rfl rfl ?_
            refine hp_ic (pc' := 54) (t := 56) (a := s.toInt) (b := 5) rfl rfl rfl rfl (by decide) (fun (h11 : s.toInt < 5) => ?_) (fun (h12 : ¬ (s.toInt < 5)) => ?_)
            ·
              refine hp_s (pc' := 57) (st' := [.ref 0]) rfl rfl rfl ?_
              refine hp_getr (k := 0) (w := .ref 1) (pc' := 60) rfl rfl rfl rfl rfl ?_
              refine hp_s (pc' := 61) (st' := [.int x, .ref 1]) rfl rfl rfl ?_
              refine hp_s (pc' := 63) (st' := [.int z1, .int x, .ref 1]) rfl rfl rfl ?_
              refine hp_s (pc' := 65) (st' := [.int z2, .int z1, .int x, .ref 1]) rfl rfl rfl ?_
              refine hp_s (pc' := 66) (st' := [.int s, .int z2, .int z1, .int x, .ref 1]) rfl rfl rfl ?_
              refine hp_cv (r := 1) (o := 5) (kd := 1) (as := [.int x, .int z1, .int z2, .int s]) (rest := []) (pc' := 69) rfl rfl rfl rfl rfl rfl rfl rfl rfl (fun d3 => ?_)
              refine s_tellDay (xi := x.toInt) rfl (fi := (f.toInt / 100)) (by omega) (ti := (f.toInt % 100)) (by omega) (si := s.toInt) rfl (by first | assumption | omega) (by first | assumption | omega) (by first | assumption | omega) (by first | assumption | omega) (by first | assumption | omega) ?_
              intro y1 p1 h13 h14
              refine hp_id (st := [.int y1]) ?_
              refine hp_ri rfl rfl ?_
              first | (exact k0 (by first | assumption | omega)) | (exact k1 _ _ (by first | assumption | omega) (by first | assumption | omega) (by first | assumption | omega) (by first | assumption | omega) (by first | assumption | omega) (by first | assumption | omega) (by first | assumption | omega) (by first | assumption | omega) (by first | assumption | omega)) | (exfalso; omega)
            ·
              refine hp_s (pc' := 55) (st' := [.int (-1)]) rfl rfl rfl ?_
              refine hp_ri rfl rfl ?_
              first | (exact k0 (by first | assumption | omega)) | (exact k1 _ _ (by first | assumption | omega) (by first | assumption | omega) (by first | assumption | omega) (by first | assumption | omega) (by first | assumption | omega) (by first | assumption | omega) (by first | assumption | omega) (by first | assumption | omega) (by first | assumption | omega)) | (exfalso; omega)
        ·
          intro h15
          refine hp_id (st := [.int 0]) ?_
          refine hp_go (pc' := 54) rfl rfl rfl ?_
          refine hp_s (pc' := 55) (st' := [.int (-1)]) rfl rfl rfl ?_
          refine hp_ri rfl rfl ?_
          first | (exact k0 (by first | assumption | omega)) | (exact k1 _ _ (by first | assumption | omega) (by first | assumption | omega) (by first | assumption | omega) (by first | assumption | omega) (by first | assumption | omega) (by first | assumption | omega) (by first | assumption | omega) (by first | assumption | omega) (by first | assumption | omega)) | (exfalso; omega)
    ·
      refine hp_s (pc' := 16) (st' := [.int (-1)]) rfl rfl rfl ?_
      refine hp_ri rfl rfl ?_
      first | (exact k0 (by first | assumption | omega)) | (exact k1 _ _ (by first | assumption | omega) (by first | assumption | omega) (by first | assumption | omega) (by first | assumption | omega) (by first | assumption | omega) (by first | assumption | omega) (by first | assumption | omega) (by first | assumption | omega) (by first | assumption | omega)) | (exfalso; omega)
  ·
    intro h16
    refine hp_id (st := [.int 0]) ?_
    refine hp_go (pc' := 15) rfl rfl rfl ?_
    refine hp_s (pc' := 16) (st' := [.int (-1)]) rfl rfl rfl ?_
    refine hp_ri rfl rfl ?_
    first | (exact k0 (by first | assumption | omega)) | (exact k1 _ _ (by first | assumption | omega) (by first | assumption | omega) (by first | assumption | omega) (by first | assumption | omega) (by first | assumption | omega) (by first | assumption | omega) (by first | assumption | omega) (by first | assumption | omega) (by first | assumption | omega)) | (exfalso; omega)
theorem lp_236 {ro : List (List Int32)} {d : Nat} {Q : Option Value → xH → Prop} {x f s : Int32} {p0 : xH} (g0 : 0 ≤ x.toInt) (g1 : x.toInt < 7) (g2 : 0 ≤ f.toInt) (g3 : f.toInt / 100 ≤ f.toInt % 100) (g4 : f.toInt % 100 < 30) (K : ∀ (z : Int32) (p2 : xH), z.toInt = f.toInt % 100 - f.toInt / 100 + 1 → hOn 88 (fun j => if 30 * x.toInt.toNat + (f.toInt / 100).toNat ≤ j ∧ j < 30 * x.toInt.toNat + (f.toInt % 100).toNat + 1 then .int s else rV p0 88 j) p0 p2 → Q (some (.int z)) p2) : ∀ (n : Nat) (k : Int32) (p : xH), (f.toInt / 100 ≤ k.toInt) → (k.toInt ≤ f.toInt % 100 + 1) → (hOn 88 (fun j => if 30 * x.toInt.toNat + (f.toInt / 100).toNat ≤ j ∧ j < 30 * x.toInt.toNat + k.toInt.toNat then .int s else rV p0 88 j) p0 p) → hP ro n d (12, 5, 1, 1, k236) 54 [(4, .int k), (0, .ref 66), (1, .int x), (2, .int f), (3, .int s)] [] p Q := by
  intro n
  induction n with
  | zero => intros; exact hp_0
  | succ n ih =>
    intro k p h1 h2 hO
    refine hp_s1 (pc' := 56) (st' := [.int k]) rfl rfl rfl ?_
    refine hp_s (pc' := 57) (st' := [.int f, .int k]) rfl rfl rfl ?_
    refine hp_s (pc' := 59) (st' := [.int 100, .int f, .int k]) rfl rfl rfl ?_
    refine hp_z (pc' := 60) (e := f - f / 100 * 100) (st' := [.int k]) rfl rfl rfl ?_
    intro z1 hz1
    have ez1 := i_rem hz1 (show f.toInt = f.toInt from rfl) (show (100 : Int32).toInt = 100 from by decide) (by decide)
    refine hp_ic (pc' := 63) (t := 82) (a := k.toInt) (b := (f.toInt % 100)) rfl rfl rfl rfl (by omega) (fun (h1 : (f.toInt % 100) < k.toInt) => ?_) (fun (h2 : ¬ ((f.toInt % 100) < k.toInt)) => ?_)
    ·
      refine hp_s (pc' := 83) (st' := [.int f]) rfl rfl rfl ?_
      refine hp_s (pc' := 85) (st' := [.int 100, .int f]) rfl rfl rfl ?_
      refine hp_z (pc' := 86) (e := f - f / 100 * 100) (st' := []) rfl rfl rfl ?_
      intro z2 hz2
      have ez2 := i_rem hz2 (show f.toInt = f.toInt from rfl) (show (100 : Int32).toInt = 100 from by decide) (by decide)
      refine hp_s (pc' := 87) (st' := [.int f, .int z2]) rfl rfl rfl ?_
      refine hp_s (pc' := 89) (st' := [.int 100, .int f, .int z2]) rfl rfl rfl ?_
      refine hp_z (pc' := 90) (e := f / 100) (st' := [.int z2]) rfl rfl rfl ?_
      intro z3 hz3
      have ez3 := i_div hz3 (show f.toInt = f.toInt from rfl) (show (100 : Int32).toInt = 100 from by decide) (by decide)
      refine hp_z (pc' := 91) (e := z2 - z3) (st' := []) rfl rfl rfl ?_
      intro z4 hz4
      have ez4 := i_sub hz4 (show z2.toInt = (f.toInt % 100) from (by omega)) (show z3.toInt = (f.toInt / 100) from (by omega))
      refine hp_s (pc' := 92) (st' := [.int 1, .int z4]) rfl rfl rfl ?_
      refine hp_z (pc' := 93) (e := z4 + 1) (st' := []) rfl rfl rfl ?_
      intro z5 hz5
      have ez5 := i_add hz5 (show z4.toInt = z4.toInt from rfl) (show (1 : Int32).toInt = 1 from by decide)
      refine hp_ri rfl rfl ?_
      exact K _ _ (by omega) (hO.eq (fun j => by rw [show 30 * x.toInt.toNat + k.toInt.toNat = 30 * x.toInt.toNat + (f.toInt % 100).toNat + 1 by omega]))
    ·
      refine hp_s (pc' := 64) (st' := [.ref 66]) rfl rfl rfl ?_
      refine hp_getr (k := 33) (w := .ref 88) (pc' := 67) rfl rfl rfl rfl rfl ?_
      refine hp_s (pc' := 69) (st' := [.int 30, .ref 88]) rfl rfl rfl ?_
      refine hp_s (pc' := 70) (st' := [.int x, .int 30, .ref 88]) rfl rfl rfl ?_
      refine hp_z (pc' := 71) (e := 30 * x) (st' := [.ref 88]) rfl rfl rfl ?_
      intro z6 hz6
      have ez6 := i_mul hz6 (show (30 : Int32).toInt = 30 from by decide) (show x.toInt = x.toInt from rfl)
      refine hp_s (pc' := 73) (st' := [.int k, .int z6, .ref 88]) rfl rfl rfl ?_
      refine hp_z (pc' := 74) (e := z6 + k) (st' := [.ref 88]) rfl rfl rfl ?_
      intro z7 hz7
      have ez7 := i_add hz7 (show z6.toInt = z6.toInt from rfl) (show k.toInt = k.toInt from rfl)
      refine hp_s (pc' := 75) (st' := [.int s, .int z7, .ref 88]) rfl rfl rfl ?_
      refine hp_st (t := 100) rfl (.inl rfl) rfl rfl ?_
      intro p1 wp1 (p1a : 0 ≤ z7.toInt) (p1b : z7.toInt < 210) ep1
      refine hp_inc (L := fun z => [(4, .int z), (0, .ref 66), (1, .int x), (2, .int f), (3, .int s)]) (pc' := 79) rfl rfl rfl (fun _ => rfl) rfl ?_
      intro z8 hz8
      have ez8 := i_add hz8 (show k.toInt = k.toInt from rfl) (show (Int32.ofInt 1).toInt = 1 from by decide)
      refine hp_go (pc' := 54) rfl rfl rfl ?_
      refine ih _ _ (by omega) (by omega) ?_
      rw [ep1]
      exact (hO.w wp1 (by show _ < 210; omega)).eq (fun j => if_fill (by omega) (by omega) (by omega))
theorem M_go {ro : List (List Int32)} {n d : Nat} {p : xH} {Q : Option Value → xH → Prop} {x : Int32} {xi : Int} {f : Int32} {fi : Int} {s : Int32} {si : Int} (hx : x.toInt = xi) (hf : f.toInt = fi) (hs : s.toInt = si) (pre0 : 0 ≤ (rI p 66 6).toInt) (pre1 : (rI p 66 6).toInt ≤ 7) (k0 : (¬ (0 ≤ xi ∧ xi < (rI p 66 6).toInt ∧ 0 ≤ fi ∧ fi / 100 ≤ fi % 100 ∧ fi % 100 < 30 ∧ -1 ≤ si ∧ si < 5)) → Q (some (.int (-1))) p) (k1 : ∀ z : Int32, ∀ p2 : xH, (0 ≤ xi) → (xi < (rI p 66 6).toInt) → (0 ≤ fi) → (fi / 100 ≤ fi % 100) → (fi % 100 < 30) → (-1 ≤ si) → (si < 5) → (z.toInt = fi % 100 - fi / 100 + 1) → (hOn 88 (fun j => if 30 * xi.toNat + (fi / 100).toNat ≤ j ∧ j < 30 * xi.toNat + (fi % 100).toNat + 1 then .int s else rV p 88 j) p p2) → Q (some (.int z)) p2) : hP ro n d (12, 5, 1, 1, k236) 0 (lv_args 0 [.ref 66, .int x, .int f, .int s]) [] p Q := by
  subst hx
  subst hf
  subst hs
  refine hp_id (ls := [(0, .ref 66), (1, .int x), (2, .int f), (3, .int s)]) ?_
  refine hp_s (pc' := 1) (st' := [.ref 66]) rfl rfl rfl ?_
  refine hp_s (pc' := 2) (st' := [.int x, .ref 66]) rfl rfl rfl ?_
  refine hp_cv (r := 66) (o := 12) (kd := 1) (as := [.int x]) (rest := []) (pc' := 5) rfl rfl rfl rfl rfl rfl rfl rfl rfl (fun d1 => ?_)
  refine s_isPerson (xi := x.toInt) rfl (by first | assumption | omega) ?_ ?_
  ·
    intro h1 h2
    refine hp_id (st := [.int 1]) ?_
    refine hp_go (pc' := 8) rfl rfl rfl ?_
    refine hp_s (pc' := 9) (st' := [.int f]) rfl rfl rfl ?_
    refine hp_if (pc' := 12) (t := 46) (a := f.toInt) rfl rfl rfl rfl (fun (h3 : f.toInt < 0) => ?_) (fun (h4 : ¬ (f.toInt < 0)) => ?_)
    ·
      refine hp_s (pc' := 47) (st' := [.int (-1)]) rfl rfl rfl ?_
      refine hp_ri rfl rfl ?_
      first | (exact k0 (by first | assumption | omega)) | (exact k1 _ _ (by first | assumption | omega) (by first | assumption | omega) (by first | assumption | omega) (by first | assumption | omega) (by first | assumption | omega) (by first | assumption | omega) (by first | assumption | omega) (by first | assumption | omega) (by first | assumption | omega)) | (exfalso; omega)
    ·
      refine hp_s (pc' := 13) (st' := [.int f]) rfl rfl rfl ?_
      refine hp_s (pc' := 15) (st' := [.int 100, .int f]) rfl rfl rfl ?_
      refine hp_z (pc' := 16) (e := f / 100) (st' := []) rfl rfl rfl ?_
      intro z1 hz1
      have ez1 := i_div hz1 (show f.toInt = f.toInt from rfl) (show (100 : Int32).toInt = 100 from by decide) (by decide)
      refine hp_s (pc' := 17) (st' := [.int f, .int z1]) rfl rfl rfl ?_
      refine hp_s (pc' := 19) (st' := [.int 100, .int f, .int z1]) rfl rfl rfl ?_
      refine hp_z (pc' := 20) (e := f - f / 100 * 100) (st' := [.int z1]) rfl rfl rfl ?_
      intro z2 hz2
      have ez2 := i_rem hz2 (show f.toInt = f.toInt from rfl) (show (100 : Int32).toInt = 100 from by decide) (by decide)
      refine hp_ic (pc' := 23) (t := 46) (a := (f.toInt / 100)) (b := (f.toInt % 100)) rfl rfl rfl (by omega) (by omega) (fun (h5 : (f.toInt % 100) < (f.toInt / 100)) => ?_) (fun (h6 : ¬ ((f.toInt % 100) < (f.toInt / 100))) => ?_)
      ·
        refine hp_s (pc' := 47) (st' := [.int (-1)]) rfl rfl rfl ?_
        refine hp_ri rfl rfl ?_
        first | (exact k0 (by first | assumption | omega)) | (exact k1 _ _ (by first | assumption | omega) (by first | assumption | omega) (by first | assumption | omega) (by first | assumption | omega) (by first | assumption | omega) (by first | assumption | omega) (by first | assumption | omega) (by first | assumption | omega) (by first | assumption | omega)) | (exfalso; omega)
      ·
        refine hp_s (pc' := 24) (st' := [.int f]) rfl rfl rfl ?_
        refine hp_s (pc' := 26) (st' := [.int 100, .int f]) rfl rfl rfl ?_
        refine hp_z (pc' := 27) (e := f - f / 100 * 100) (st' := []) rfl rfl rfl ?_
        intro z3 hz3
        have ez3 := i_rem hz3 (show f.toInt = f.toInt from rfl) (show (100 : Int32).toInt = 100 from by decide) (by decide)
        refine hp_s (pc' := 29) (st' := [.int 30, .int z3]) rfl rfl rfl ?_
        refine hp_ic (pc' := 32) (t := 46) (a := (f.toInt % 100)) (b := 30) rfl rfl rfl (by omega) (by decide) (fun (h7 : 30 ≤ (f.toInt % 100)) => ?_) (fun (h8 : ¬ (30 ≤ (f.toInt % 100))) => ?_)
        ·
          refine hp_s (pc' := 47) (st' := [.int (-1)]) rfl rfl rfl ?_
          refine hp_ri rfl rfl ?_
          first | (exact k0 (by first | assumption | omega)) | (exact k1 _ _ (by first | assumption | omega) (by first | assumption | omega) (by first | assumption | omega) (by first | assumption | omega) (by first | assumption | omega) (by first | assumption | omega) (by first | assumption | omega) (by first | assumption | omega) (by first | assumption | omega)) | (exfalso; omega)
        ·
          refine hp_s (pc' := 33) (st' := [.int s]) rfl rfl rfl ?_
          refine hp_i2l (pc' := 34) rfl rfl ?_
          intro z4 hz4 ez4
          refine hp_s (pc' := 37) (st' := [.long (-1), .long z4]) rfl rfl rfl ?_
          refine hp_s (pc' := 40) (st' := [.long 4, .long (-1), .long z4]) rfl rfl rfl ?_
          refine hp_cs (kd := 0) (as := [.long z4, .long (-1), .long 4]) (rest := []) (pc' := 43) rfl rfl rfl rfl rfl rfl rfl (fun d2 => ?_)
          refine s_within (vi := s.toInt) ez4 (ai := (-1)) (by decide) (bi := 4) (by decide) ?_ ?_
          ·
            intro h9 h10
            refine hp_id (st := [.int 1]) ?_
            refine hp_go (pc' := 48) rfl rfl rfl ?_
            refine hp_s (pc' := 49) (st' := [.int f]) rfl rfl rfl ?_
            refine hp_s (pc' := 51) (st' := [.int 100, .int f]) rfl rfl rfl ?_
            refine hp_z (pc' := 52) (e := f / 100) (st' := []) rfl rfl rfl ?_
            intro z5 hz5
            have ez5 := i_div hz5 (show f.toInt = f.toInt from rfl) (show (100 : Int32).toInt = 100 from by decide) (by decide)
            refine hp_s (pc' := 54) (ls' := [(4, .int z5), (0, .ref 66), (1, .int x), (2, .int f), (3, .int s)]) (st' := []) rfl rfl rfl ?_
            exact lp_236 (x := x) (p0 := p) (by omega) (by omega) (by omega) (by omega) (by omega) (fun z p2 e h => k1 z p2 (by omega) (by omega) (by omega) (by omega) (by omega) (by omega) (by omega) e h) n _ _ (by omega) (by omega) ((hOn.refl 88 _).eq (fun j => by rw [if_neg (by omega)]))
          ·
            intro h11
            refine hp_id (st := [.int 0]) ?_
            refine hp_go (pc' := 46) rfl rfl rfl ?_
            refine hp_s (pc' := 47) (st' := [.int (-1)]) rfl rfl rfl ?_
            refine hp_ri rfl rfl ?_
            first | (exact k0 (by first | assumption | omega)) | (exact k1 _ _ (by first | assumption | omega) (by first | assumption | omega) (by first | assumption | omega) (by first | assumption | omega) (by first | assumption | omega) (by first | assumption | omega) (by first | assumption | omega) (by first | assumption | omega) (by first | assumption | omega)) | (exfalso; omega)
  ·
    intro h12
    refine hp_id (st := [.int 0]) ?_
    refine hp_go (pc' := 46) rfl rfl rfl ?_
    refine hp_s (pc' := 47) (st' := [.int (-1)]) rfl rfl rfl ?_
    refine hp_ri rfl rfl ?_
    first | (exact k0 (by first | assumption | omega)) | (exact k1 _ _ (by first | assumption | omega) (by first | assumption | omega) (by first | assumption | omega) (by first | assumption | omega) (by first | assumption | omega) (by first | assumption | omega) (by first | assumption | omega) (by first | assumption | omega) (by first | assumption | omega)) | (exfalso; omega)
