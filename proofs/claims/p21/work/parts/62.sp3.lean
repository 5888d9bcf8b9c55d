/-! contracts of methods, walked -/
theorem s_reaches {ro : List (List Int32)} {n d : Nat} {p : xH} {Q : Option Value → xH → Prop} {x : Int32} {xi : Int} {y : Int32} {yi : Int} {c : Int32} {ci : Int} (hx : x.toInt = xi) (hy : y.toInt = yi) (hc : c.toInt = ci) (pre0 : 0 ≤ ci) (pre1 : 0 ≤ (rI p 64 xi.toNat).toInt) (pre2 : (rI p 64 xi.toNat).toInt ≤ 60) (k0 : (0 ≤ yi) → (yi + ci ≤ (rI p 64 xi.toNat).toInt) → Q (some (.int (1))) p) (k1 : (¬ (0 ≤ yi ∧ yi + ci ≤ (rI p 64 xi.toNat).toInt)) → Q (some (.int (0))) p) : hP ro n d (6, 4, 1, 2, k79) 0 (lv_args 0 [.ref 60, .int x, .int y, .int c]) [] p Q := by
  subst hx
  subst hy
  subst hc
  refine hp_id (ls := [(0, .ref 60), (1, .int x), (2, .int y), (3, .int c)]) ?_
  refine hp_s (pc' := 1) (st' := [.int y]) rfl rfl rfl ?_
  refine hp_if (pc' := 4) (t := 20) (a := y.toInt) rfl rfl rfl rfl (fun (h1 : y.toInt < 0) => ?_) (fun (h2 : ¬ (y.toInt < 0)) => ?_)
  ·
    refine hp_s (pc' := 21) (st' := [.int 0]) rfl rfl rfl ?_
    refine hp_rb rfl rfl (fun _ => ?_)
    first | (exact k1 (by first | assumption | omega)) | (exfalso; omega)
  ·
    refine hp_s (pc' := 5) (st' := [.int y]) rfl rfl rfl ?_
    refine hp_s (pc' := 6) (st' := [.ref 60, .int y]) rfl rfl rfl ?_
    refine hp_getr (k := 3) (w := .ref 64) (pc' := 9) rfl rfl rfl rfl rfl ?_
    refine hp_s (pc' := 10) (st' := [.int x, .ref 64, .int y]) rfl rfl rfl ?_
    refine hp_ld (t := 100) (v := (rI p 64 x.toInt.toNat)) rfl (.inl rfl) rfl rfl rfl ?_
    intro (g1a : 0 ≤ x.toInt) (g1b : x.toInt < 6)
    refine hp_s (pc' := 12) (st' := [.int c, .int (rI p 64 x.toInt.toNat), .int y]) rfl rfl rfl ?_
    refine hp_z (pc' := 13) (e := (rI p 64 x.toInt.toNat) - c) (st' := [.int y]) rfl rfl rfl ?_
    intro z1 hz1
    have ez1 := i_sub hz1 (show (rI p 64 x.toInt.toNat).toInt = (rI p 64 x.toInt.toNat).toInt from rfl) (show c.toInt = c.toInt from rfl)
    refine hp_ic (pc' := 16) (t := 20) (a := y.toInt) (b := z1.toInt) rfl rfl rfl rfl rfl (fun (h3 : z1.toInt < y.toInt) => ?_) (fun (h4 : ¬ (z1.toInt < y.toInt)) => ?_)
    ·
      refine hp_s (pc' := 21) (st' := [.int 0]) rfl rfl rfl ?_
      refine hp_rb rfl rfl (fun _ => ?_)
      first | (exact k1 (by first | assumption | omega)) | (exfalso; omega)
    ·
      refine hp_s (pc' := 17) (st' := [.int 1]) rfl rfl rfl ?_
      refine hp_go (pc' := 21) rfl rfl rfl ?_
      refine hp_rb rfl rfl (fun _ => ?_)
      first | (exact k0 (by first | assumption | omega) (by first | assumption | omega)) | (exfalso; omega)
theorem s_move {ro : List (List Int32)} {n d : Nat} {p : xH} {Q : Option Value → xH → Prop} {x : Int32} {xi : Int} {y : Int32} {yi : Int} {u : Int32} {ui : Int} {w : Int32} {wi : Int} {c : Int32} {ci : Int} (hx : x.toInt = xi) (hy : y.toInt = yi) (hu : u.toInt = ui) (hw : w.toInt = wi) (hc : c.toInt = ci) (pre0 : 0 ≤ xi) (pre1 : xi < 6) (pre2 : 0 ≤ ui) (pre3 : ui < 6) (pre4 : 0 ≤ (rI p 64 xi.toNat).toInt) (pre5 : (rI p 64 xi.toNat).toInt ≤ 60) (pre6 : 0 ≤ (rI p 64 ui.toNat).toInt) (pre7 : (rI p 64 ui.toNat).toInt ≤ 60) (k0 : ((rI p 61 xi.toNat).toInt = 0 ∨ (rI p 61 ui.toNat).toInt = 0) → Q (some (.int (-11))) p) (k1 : ((rI p 61 xi.toNat).toInt ≠ 0) → ((rI p 61 ui.toNat).toInt ≠ 0) → (¬ ((rI p 61 xi.toNat).toInt = 2 ∧ (rI p 61 ui.toNat).toInt = 2 ∧ (rI p 63 ui.toNat).toInt = (rI p 63 xi.toNat).toInt)) → Q (some (.int (-12))) p) (k2 : ((rI p 61 xi.toNat).toInt = 2) → ((rI p 61 ui.toNat).toInt = 2) → ((rI p 63 ui.toNat).toInt = (rI p 63 xi.toNat).toInt) → (¬ (0 ≤ ci ∧ 0 ≤ yi ∧ yi + ci ≤ (rI p 64 xi.toNat).toInt ∧ 0 ≤ wi ∧ wi + ci ≤ (rI p 64 ui.toNat).toInt)) → Q (some (.int (-13))) p) (k3 : ∀ z : Int32, ∀ p2 : xH, ((rI p 61 xi.toNat).toInt = 2) → ((rI p 61 ui.toNat).toInt = 2) → ((rI p 63 ui.toNat).toInt = (rI p 63 xi.toNat).toInt) → (0 ≤ ci) → (0 ≤ yi) → (yi + ci ≤ (rI p 64 xi.toNat).toInt) → (0 ≤ wi) → (wi + ci ≤ (rI p 64 ui.toNat).toInt) → (hOn 65 (fun j => if (60 * ui + wi).toNat ≤ j ∧ j < (60 * ui + wi).toNat + ci.toNat then rV p 65 ((60 * xi + yi).toNat + (j - (60 * ui + wi).toNat)) else rV p 65 j) p p2) → (z.toInt = ci) → Q (some (.int z)) p2) : hP ro n d (6, 6, 1, 1, k78) 0 (lv_args 0 [.ref 60, .int x, .int y, .int u, .int w, .int c]) [] p Q := by
  subst hx
  subst hy
  subst hu
  subst hw
  subst hc
  refine hp_id (ls := [(0, .ref 60), (1, .int x), (2, .int y), (3, .int u), (4, .int w), (5, .int c)]) ?_
  refine hp_s (pc' := 1) (st' := [.ref 60]) rfl rfl rfl ?_
  refine hp_getr (k := 0) (w := .ref 61) (pc' := 4) rfl rfl rfl rfl rfl ?_
  refine hp_s (pc' := 5) (st' := [.int x, .ref 61]) rfl rfl rfl ?_
  refine hp_ld (t := 100) (v := (rI p 61 x.toInt.toNat)) rfl (.inl rfl) rfl rfl rfl ?_
  intro (g1a : 0 ≤ x.toInt) (g1b : x.toInt < 6)
  refine hp_if (pc' := 9) (t := 18) (a := (rI p 61 x.toInt.toNat).toInt) rfl rfl rfl rfl (fun (h1 : (rI p 61 x.toInt.toNat).toInt = 0) => ?_) (fun (h2 : ¬ ((rI p 61 x.toInt.toNat).toInt = 0)) => ?_)
  ·
    refine hp_s (pc' := 20) (st' := [.int (-11)]) rfl rfl rfl ?_
    refine hp_ri rfl rfl ?_
    first | (exact k0 (by first | assumption | omega | (refine hOn.eq op1 (fun j => ?_); rw [show (60 * u.toInt + w.toInt).toNat = z4.toInt.toNat by omega, show (60 * x.toInt + y.toInt).toNat = z2.toInt.toNat by omega]))) | (exact k3 _ _ (by first | assumption | omega | (refine hOn.eq op1 (fun j => ?_); rw [show (60 * u.toInt + w.toInt).toNat = z4.toInt.toNat by omega, show (60 * x.toInt + y.toInt).toNat = z2.toInt.toNat by omega])) (by first | assumption | omega | (refine hOn.eq op1 (fun j => ?_); rw [show (60 * u.toInt + w.toInt).toNat = z4.toInt.toNat by omega, show (60 * x.toInt + y.toInt).toNat = z2.toInt.toNat by omega])) (by first | assumption | omega | (refine hOn.eq op1 (fun j => ?_); rw [show (60 * u.toInt + w.toInt).toNat = z4.toInt.toNat by omega, show (60 * x.toInt + y.toInt).toNat = z2.toInt.toNat by omega])) (by first | assumption | omega | (refine hOn.eq op1 (fun j => ?_); rw [show (60 * u.toInt + w.toInt).toNat = z4.toInt.toNat by omega, show (60 * x.toInt + y.toInt).toNat = z2.toInt.toNat by omega])) (by first | assumption | omega | (refine hOn.eq op1 (fun j => ?_); rw [show (60 * u.toInt + w.toInt).toNat = z4.toInt.toNat by omega, show (60 * x.toInt + y.toInt).toNat = z2.toInt.toNat by omega])) (by first | assumption | omega | (refine hOn.eq op1 (fun j => ?_); rw [show (60 * u.toInt + w.toInt).toNat = z4.toInt.toNat by omega, show (60 * x.toInt + y.toInt).toNat = z2.toInt.toNat by omega])) (by first | assumption | omega | (refine hOn.eq op1 (fun j => ?_); rw [show (60 * u.toInt + w.toInt).toNat = z4.toInt.toNat by omega, show (60 * x.toInt + y.toInt).toNat = z2.toInt.toNat by omega])) (by first | assumption | omega | (refine hOn.eq op1 (fun j => ?_); rw [show (60 * u.toInt + w.toInt).toNat = z4.toInt.toNat by omega, show (60 * x.toInt + y.toInt).toNat = z2.toInt.toNat by omega])) (by first | assumption | omega | (refine hOn.eq op1 (fun j => ?_); rw [show (60 * u.toInt + w.toInt).toNat = z4.toInt.toNat by omega, show (60 * x.toInt + y.toInt).toNat = z2.toInt.toNat by omega])) (by first | assumption | omega | (refine hOn.eq op1 (fun j => ?_); rw [show (60 * u.toInt + w.toInt).toNat = z4.toInt.toNat by omega, show (60 * x.toInt + y.toInt).toNat = z2.toInt.toNat by omega]))) | (exfalso; omega)
  ·
    refine hp_s (pc' := 10) (st' := [.ref 60]) rfl rfl rfl ?_
    refine hp_getr (k := 0) (w := .ref 61) (pc' := 13) rfl rfl rfl rfl rfl ?_
    refine hp_s (pc' := 14) (st' := [.int u, .ref 61]) rfl rfl rfl ?_
    refine hp_ld (t := 100) (v := (rI p 61 u.toInt.toNat)) rfl (.inl rfl) rfl rfl rfl ?_
    intro (g2a : 0 ≤ u.toInt) (g2b : u.toInt < 6)
    refine hp_if (pc' := 18) (t := 21) (a := (rI p 61 u.toInt.toNat).toInt) rfl rfl rfl rfl (fun (h3 : (rI p 61 u.toInt.toNat).toInt ≠ 0) => ?_) (fun (h4 : ¬ ((rI p 61 u.toInt.toNat).toInt ≠ 0)) => ?_)
    ·
      refine hp_s (pc' := 22) (st' := [.ref 60]) rfl rfl rfl ?_
      refine hp_getr (k := 0) (w := .ref 61) (pc' := 25) rfl rfl rfl rfl rfl ?_
      refine hp_s (pc' := 26) (st' := [.int x, .ref 61]) rfl rfl rfl ?_
      refine hp_ld (t := 100) (v := (rI p 61 x.toInt.toNat)) rfl (.inl rfl) rfl rfl rfl ?_
      intro (g3a : 0 ≤ x.toInt) (g3b : x.toInt < 6)
      refine hp_s (pc' := 28) (st' := [.int 2, .int (rI p 61 x.toInt.toNat)]) rfl rfl rfl ?_
      refine hp_ic (pc' := 31) (t := 45) (a := (rI p 61 x.toInt.toNat).toInt) (b := 2) rfl rfl rfl rfl (by decide) (fun (h5 : (rI p 61 x.toInt.toNat).toInt ≠ 2) => ?_) (fun (h6 : ¬ ((rI p 61 x.toInt.toNat).toInt ≠ 2)) => ?_)
      ·
        refine hp_s (pc' := 47) (st' := [.int (-12)]) rfl rfl rfl ?_
        refine hp_ri rfl rfl ?_
        first | (exact k1 (by first | assumption | omega | (refine hOn.eq op1 (fun j => ?_); rw [show (60 * u.toInt + w.toInt).toNat = z4.toInt.toNat by omega, show (60 * x.toInt + y.toInt).toNat = z2.toInt.toNat by omega])) (by first | assumption | omega | (refine hOn.eq op1 (fun j => ?_); rw [show (60 * u.toInt + w.toInt).toNat = z4.toInt.toNat by omega, show (60 * x.toInt + y.toInt).toNat = z2.toInt.toNat by omega])) (by first | assumption | omega | (refine hOn.eq op1 (fun j => ?_); rw [show (60 * u.toInt + w.toInt).toNat = z4.toInt.toNat by omega, show (60 * x.toInt + y.toInt).toNat = z2.toInt.toNat by omega]))) | (exact k3 _ _ (by first | assumption | omega | (refine hOn.eq op1 (fun j => ?_); rw [show (60 * u.toInt + w.toInt).toNat = z4.toInt.toNat by omega, show (60 * x.toInt + y.toInt).toNat = z2.toInt.toNat by omega])) (by first | assumption | omega | (refine hOn.eq op1 (fun j => ?_); rw [show (60 * u.toInt + w.toInt).toNat = z4.toInt.toNat by omega, show (60 * x.toInt + y.toInt).toNat = z2.toInt.toNat by omega])) (by first | assumption | omega | (refine hOn.eq op1 (fun j => ?_); rw [show (60 * u.toInt + w.toInt).toNat = z4.toInt.toNat by omega, show (60 * x.toInt + y.toInt).toNat = z2.toInt.toNat by omega])) (by first | assumption | omega | (refine hOn.eq op1 (fun j => ?_); rw [show (60 * u.toInt + w.toInt).toNat = z4.toInt.toNat by omega, show (60 * x.toInt + y.toInt).toNat = z2.toInt.toNat by omega])) (by first | assumption | omega | (refine hOn.eq op1 (fun j => ?_); rw [show (60 * u.toInt + w.toInt).toNat = z4.toInt.toNat by omega, show (60 * x.toInt + y.toInt).toNat = z2.toInt.toNat by omega])) (by first | assumption | omega | (refine hOn.eq op1 (fun j => ?_); rw [show (60 * u.toInt + w.toInt).toNat = z4.toInt.toNat by omega, show (60 * x.toInt + y.toInt).toNat = z2.toInt.toNat by omega])) (by first | assumption | omega | (refine hOn.eq op1 (fun j => ?_); rw [show (60 * u.toInt + w.toInt).toNat = z4.toInt.toNat by omega, show (60 * x.toInt + y.toInt).toNat = z2.toInt.toNat by omega])) (by first | assumption | omega | (refine hOn.eq op1 (fun j => ?_); rw [show (60 * u.toInt + w.toInt).toNat = z4.toInt.toNat by omega, show (60 * x.toInt + y.toInt).toNat = z2.toInt.toNat by omega])) (by first | assumption | omega | (refine hOn.eq op1 (fun j => ?_); rw [show (60 * u.toInt + w.toInt).toNat = z4.toInt.toNat by omega, show (60 * x.toInt + y.toInt).toNat = z2.toInt.toNat by omega])) (by first | assumption | omega | (refine hOn.eq op1 (fun j => ?_); rw [show (60 * u.toInt + w.toInt).toNat = z4.toInt.toNat by omega, show (60 * x.toInt + y.toInt).toNat = z2.toInt.toNat by omega]))) | (exfalso; omega)
      ·
        refine hp_s (pc' := 32) (st' := [.ref 60]) rfl rfl rfl ?_
        refine hp_s (pc' := 33) (st' := [.int u, .ref 60]) rfl rfl rfl ?_
        refine hp_s (pc' := 34) (st' := [.ref 60, .int u, .ref 60]) rfl rfl rfl ?_
        refine hp_getr (k := 2) (w := .ref 63) (pc' := 37) rfl rfl rfl rfl rfl ?_
        refine hp_s (pc' := 38) (st' := [.int x, .ref 63, .int u, .ref 60]) rfl rfl rfl ?_
        refine hp_ld (t := 100) (v := (rI p 63 x.toInt.toNat)) rfl (.inl rfl) rfl rfl rfl ?_
        intro (g4a : 0 ≤ x.toInt) (g4b : x.toInt < 6)
        refine hp_cv (r := 60) (o := 6) (kd := 1) (as := [.int u, .int (rI p 63 x.toInt.toNat)]) (rest := []) (pc' := 42) rfl rfl rfl rfl rfl rfl rfl rfl rfl (fun d1 => ?_)
        refine s_isRowOf (xi := u.toInt) rfl (yi := (rI p 63 x.toInt.toNat).toInt) rfl ?_ ?_
        ·
          intro h7 h8 h9 h10
          refine hp_id (st := [.int 1]) ?_
          refine hp_go (pc' := 48) rfl rfl rfl ?_
          refine hp_s (pc' := 50) (st' := [.int c]) rfl rfl rfl ?_
          refine hp_if (pc' := 53) (t := 76) (a := c.toInt) rfl rfl rfl rfl (fun (h11 : c.toInt < 0) => ?_) (fun (h12 : ¬ (c.toInt < 0)) => ?_)
          ·
            refine hp_s (pc' := 78) (st' := [.int (-13)]) rfl rfl rfl ?_
            refine hp_ri rfl rfl ?_
            first | (exact k2 (by first | assumption | omega | (refine hOn.eq op1 (fun j => ?_); rw [show (60 * u.toInt + w.toInt).toNat = z4.toInt.toNat by omega, show (60 * x.toInt + y.toInt).toNat = z2.toInt.toNat by omega])) (by first | assumption | omega | (refine hOn.eq op1 (fun j => ?_); rw [show (60 * u.toInt + w.toInt).toNat = z4.toInt.toNat by omega, show (60 * x.toInt + y.toInt).toNat = z2.toInt.toNat by omega])) (by first | assumption | omega | (refine hOn.eq op1 (fun j => ?_); rw [show (60 * u.toInt + w.toInt).toNat = z4.toInt.toNat by omega, show (60 * x.toInt + y.toInt).toNat = z2.toInt.toNat by omega])) (by first | assumption | omega | (refine hOn.eq op1 (fun j => ?_); rw [show (60 * u.toInt + w.toInt).toNat = z4.toInt.toNat by omega, show (60 * x.toInt + y.toInt).toNat = z2.toInt.toNat by omega]))) | (exact k3 _ _ (by first | assumption | omega | (refine hOn.eq op1 (fun j => ?_); rw [show (60 * u.toInt + w.toInt).toNat = z4.toInt.toNat by omega, show (60 * x.toInt + y.toInt).toNat = z2.toInt.toNat by omega])) (by first | assumption | omega | (refine hOn.eq op1 (fun j => ?_); rw [show (60 * u.toInt + w.toInt).toNat = z4.toInt.toNat by omega, show (60 * x.toInt + y.toInt).toNat = z2.toInt.toNat by omega])) (by first | assumption | omega | (refine hOn.eq op1 (fun j => ?_); rw [show (60 * u.toInt + w.toInt).toNat = z4.toInt.toNat by omega, show (60 * x.toInt + y.toInt).toNat = z2.toInt.toNat by omega])) (by first | assumption | omega | (refine hOn.eq op1 (fun j => ?_); rw [show (60 * u.toInt + w.toInt).toNat = z4.toInt.toNat by omega, show (60 * x.toInt + y.toInt).toNat = z2.toInt.toNat by omega])) (by first | assumption | omega | (refine hOn.eq op1 (fun j => ?_); rw [show (60 * u.toInt + w.toInt).toNat = z4.toInt.toNat by omega, show (60 * x.toInt + y.toInt).toNat = z2.toInt.toNat by omega])) (by first | assumption | omega | (refine hOn.eq op1 (fun j => ?_); rw [show (60 * u.toInt + w.toInt).toNat = z4.toInt.toNat by omega, show (60 * x.toInt + y.toInt).toNat = z2.toInt.toNat by omega])) (by first | assumption | omega | (refine hOn.eq op1 (fun j => ?_); rw [show (60 * u.toInt + w.toInt).toNat = z4.toInt.toNat by omega, show (60 * x.toInt + y.toInt).toNat = z2.toInt.toNat by omega])) (by first | assumption | omega | (refine hOn.eq op1 (fun j => ?_); rw [show (60 * u.toInt + w.toInt).toNat = z4.toInt.toNat by omega, show (60 * x.toInt + y.toInt).toNat = z2.toInt.toNat by omega])) (by first | assumption | omega | (refine hOn.eq op1 (fun j => ?_); rw [show (60 * u.toInt + w.toInt).toNat = z4.toInt.toNat by omega, show (60 * x.toInt + y.toInt).toNat = z2.toInt.toNat by omega])) (by first | assumption | omega | (refine hOn.eq op1 (fun j => ?_); rw [show (60 * u.toInt + w.toInt).toNat = z4.toInt.toNat by omega, show (60 * x.toInt + y.toInt).toNat = z2.toInt.toNat by omega]))) | (exfalso; omega)
          ·
            refine hp_s (pc' := 54) (st' := [.ref 60]) rfl rfl rfl ?_
            refine hp_s (pc' := 55) (st' := [.int x, .ref 60]) rfl rfl rfl ?_
            refine hp_s (pc' := 56) (st' := [.int y, .int x, .ref 60]) rfl rfl rfl ?_
            refine hp_s (pc' := 58) (st' := [.int c, .int y, .int x, .ref 60]) rfl rfl rfl ?_
            refine hp_cv (r := 60) (o := 6) (kd := 1) (as := [.int x, .int y, .int c]) (rest := []) (pc' := 61) rfl rfl rfl rfl rfl rfl rfl rfl rfl (fun d2 => ?_)
            refine s_reaches (xi := x.toInt) rfl (yi := y.toInt) rfl (ci := c.toInt) rfl (by first | assumption | omega) (by first | assumption | omega) (by first | assumption | omega) ?_ ?_
            ·
              intro h13 h14
              refine hp_id (st := [.int 1]) ?_
              refine hp_go (pc' := 64) rfl rfl rfl ?_
              refine hp_s (pc' := 65) (st' := [.ref 60]) rfl rfl rfl ?_
              refine hp_s (pc' := 66) (st' := [.int u, .ref 60]) rfl rfl rfl ?_
              refine hp_s (pc' := 68) (st' := [.int w, .int u, .ref 60]) rfl rfl rfl ?_
              refine hp_s (pc' := 70) (st' := [.int c, .int w, .int u, .ref 60]) rfl rfl rfl ?_
              refine hp_cv (r := 60) (o := 6) (kd := 1) (as := [.int u, .int w, .int c]) (rest := []) (pc' := 73) rfl rfl rfl rfl rfl rfl rfl rfl rfl (fun d3 => ?_)
              refine s_reaches (xi := u.toInt) rfl (yi := w.toInt) rfl (ci := c.toInt) rfl (by first | assumption | omega) (by first | assumption | omega) (by first | assumption | omega) ?_ ?_
              ·
                intro h15 h16
                refine hp_id (st := [.int 1]) ?_
                refine hp_go (pc' := 79) rfl rfl rfl ?_
                refine hp_s (pc' := 80) (st' := [.ref 60]) rfl rfl rfl ?_
                refine hp_getr (k := 4) (w := .ref 65) (pc' := 83) rfl rfl rfl rfl rfl ?_
                refine hp_s (pc' := 84) (st' := [.int x, .ref 65]) rfl rfl rfl ?_
                refine hp_s (pc' := 86) (st' := [.int 60, .int x, .ref 65]) rfl rfl rfl ?_
                refine hp_z (pc' := 87) (e := x * 60) (st' := [.ref 65]) rfl rfl rfl ?_
                intro z1 hz1
                have ez1 := i_mul hz1 (show x.toInt = x.toInt from rfl) (show (60 : Int32).toInt = 60 from by decide)
                refine hp_s (pc' := 88) (st' := [.int y, .int z1, .ref 65]) rfl rfl rfl ?_
                refine hp_z (pc' := 89) (e := z1 + y) (st' := [.ref 65]) rfl rfl rfl ?_
                intro z2 hz2
                have ez2 := i_add hz2 (show z1.toInt = z1.toInt from rfl) (show y.toInt = y.toInt from rfl)
                refine hp_s (pc' := 90) (st' := [.ref 60, .int z2, .ref 65]) rfl rfl rfl ?_
                refine hp_getr (k := 4) (w := .ref 65) (pc' := 93) rfl rfl rfl rfl rfl ?_
                refine hp_s (pc' := 94) (st' := [.int u, .ref 65, .int z2, .ref 65]) rfl rfl rfl ?_
                refine hp_s (pc' := 96) (st' := [.int 60, .int u, .ref 65, .int z2, .ref 65]) rfl rfl rfl ?_
                refine hp_z (pc' := 97) (e := u * 60) (st' := [.ref 65, .int z2, .ref 65]) rfl rfl rfl ?_
                intro z3 hz3
                have ez3 := i_mul hz3 (show u.toInt = u.toInt from rfl) (show (60 : Int32).toInt = 60 from by decide)
                refine hp_s (pc' := 99) (st' := [.int w, .int z3, .ref 65, .int z2, .ref 65]) rfl rfl rfl ?_
                refine hp_z (pc' := 100) (e := z3 + w) (st' := [.ref 65, .int z2, .ref 65]) rfl rfl rfl ?_
                intro z4 hz4
                have ez4 := i_add hz4 (show z3.toInt = z3.toInt from rfl) (show w.toInt = w.toInt from rfl)
                refine hp_s (pc' := 102) (st' := [.int c, .int z4, .ref 65, .int z2, .ref 65]) rfl rfl rfl ?_
                refine hp_ay (rs := 65) (rd := 65) (pc' := 105) rfl rfl rfl rfl rfl rfl ?_
                intro p1 wp1 p1a p1b p1c p1d p1e op1
                refine hp_s (pc' := 107) (st' := [.int c]) rfl rfl rfl ?_
                refine hp_ri rfl rfl ?_
                first | (exact k0 (by first | assumption | omega | (refine hOn.eq op1 (fun j => ?_); rw [show (60 * u.toInt + w.toInt).toNat = z4.toInt.toNat by omega, show (60 * x.toInt + y.toInt).toNat = z2.toInt.toNat by omega]))) | (exact k1 (by first | assumption | omega | (refine hOn.eq op1 (fun j => ?_); rw [show (60 * u.toInt + w.toInt).toNat = z4.toInt.toNat by omega, show (60 * x.toInt + y.toInt).toNat = z2.toInt.toNat by omega])) (by first | assumption | omega | (refine hOn.eq op1 (fun j => ?_); rw [show (60 * u.toInt + w.toInt).toNat = z4.toInt.toNat by omega, show (60 * x.toInt + y.toInt).toNat = z2.toInt.toNat by omega])) (by first | assumption | omega | (refine hOn.eq op1 (fun j => ?_); rw [show (60 * u.toInt + w.toInt).toNat = z4.toInt.toNat by omega, show (60 * x.toInt + y.toInt).toNat = z2.toInt.toNat by omega]))) | (exact k2 (by first | assumption | omega | (refine hOn.eq op1 (fun j => ?_); rw [show (60 * u.toInt + w.toInt).toNat = z4.toInt.toNat by omega, show (60 * x.toInt + y.toInt).toNat = z2.toInt.toNat by omega])) (by first | assumption | omega | (refine hOn.eq op1 (fun j => ?_); rw [show (60 * u.toInt + w.toInt).toNat = z4.toInt.toNat by omega, show (60 * x.toInt + y.toInt).toNat = z2.toInt.toNat by omega])) (by first | assumption | omega | (refine hOn.eq op1 (fun j => ?_); rw [show (60 * u.toInt + w.toInt).toNat = z4.toInt.toNat by omega, show (60 * x.toInt + y.toInt).toNat = z2.toInt.toNat by omega])) (by first | assumption | omega | (refine hOn.eq op1 (fun j => ?_); rw [show (60 * u.toInt + w.toInt).toNat = z4.toInt.toNat by omega, show (60 * x.toInt + y.toInt).toNat = z2.toInt.toNat by omega]))) | (exact k3 _ _ (by first | assumption | omega | (refine hOn.eq op1 (fun j => ?_); rw [show (60 * u.toInt + w.toInt).toNat = z4.toInt.toNat by omega, show (60 * x.toInt + y.toInt).toNat = z2.toInt.toNat by omega])) (by first | assumption | omega | (refine hOn.eq op1 (fun j => ?_); rw [show (60 * u.toInt + w.toInt).toNat = z4.toInt.toNat by omega, show (60 * x.toInt + y.toInt).toNat = z2.toInt.toNat by omega])) (by first | assumption | omega | (refine hOn.eq op1 (fun j => ?_); rw [show (60 * u.toInt + w.toInt).toNat = z4.toInt.toNat by omega, show (60 * x.toInt + y.toInt).toNat = z2.toInt.toNat by omega])) (by first | assumption | omega | (refine hOn.eq op1 (fun j => ?_); rw [show (60 * u.toInt + w.toInt).toNat = z4.toInt.toNat by omega, show (60 * x.toInt + y.toInt).toNat = z2.toInt.toNat by omega])) (by first | assumption | omega | (refine hOn.eq op1 (fun j => ?_); rw [show (60 * u.toInt + w.toInt).toNat = z4.toInt.toNat by omega, show (60 * x.toInt + y.toInt).toNat = z2.toInt.toNat by omega])) (by first | assumption | omega | (refine hOn.eq op1 (fun j => ?_); rw [show (60 * u.toInt + w.toInt).toNat = z4.toInt.toNat by omega, show (60 * x.toInt + y.toInt).toNat = z2.toInt.toNat by omega])) (by first | assumption | omega | (refine hOn.eq op1 (fun j => ?_); rw [show (60 * u.toInt + w.toInt).toNat = z4.toInt.toNat by omega, show (60 * x.toInt + y.toInt).toNat = z2.toInt.toNat by omega])) (by first | assumption | omega | (refine hOn.eq op1 (fun j => ?_); rw [show (60 * u.toInt + w.toInt).toNat = z4.toInt.toNat by omega, show (60 * x.toInt + y.toInt).toNat = z2.toInt.toNat by omega])) (by first | assumption | omega | (refine hOn.eq op1 (fun j => ?_); rw [show (60 * u.toInt + w.toInt).toNat = z4.toInt.toNat by omega, show (60 * x.toInt + y.toInt).toNat = z2.toInt.toNat by omega])) (by first | assumption | omega | (refine hOn.eq op1 (fun j => ?_); rw [show (60 * u.toInt + w.toInt).toNat = z4.toInt.toNat by omega, show (60 * x.toInt + y.toInt).toNat = z2.toInt.toNat by omega]))) | (exfalso; omega)
              ·
                intro h17
                refine hp_id (st := [.int 0]) ?_
                refine hp_go (pc' := 76) rfl rfl rfl ?_
                refine hp_s (pc' := 78) (st' := [.int (-13)]) rfl rfl rfl ?_
                refine hp_ri rfl rfl ?_
                first | (exact k2 (by first | assumption | omega | (refine hOn.eq op1 (fun j => ?_); rw [show (60 * u.toInt + w.toInt).toNat = z4.toInt.toNat by omega, show (60 * x.toInt + y.toInt).toNat = z2.toInt.toNat by omega])) (by first | assumption | omega | (refine hOn.eq op1 (fun j => ?_); rw [show (60 * u.toInt + w.toInt).toNat = z4.toInt.toNat by omega, show (60 * x.toInt + y.toInt).toNat = z2.toInt.toNat by omega])) (by first | assumption | omega | (refine hOn.eq op1 (fun j => ?_); rw [show (60 * u.toInt + w.toInt).toNat = z4.toInt.toNat by omega, show (60 * x.toInt + y.toInt).toNat = z2.toInt.toNat by omega])) (by first | assumption | omega | (refine hOn.eq op1 (fun j => ?_); rw [show (60 * u.toInt + w.toInt).toNat = z4.toInt.toNat by omega, show (60 * x.toInt + y.toInt).toNat = z2.toInt.toNat by omega]))) | (exact k3 _ _ (by first | assumption | omega | (refine hOn.eq op1 (fun j => ?_); rw [show (60 * u.toInt + w.toInt).toNat = z4.toInt.toNat by omega, show (60 * x.toInt + y.toInt).toNat = z2.toInt.toNat by omega])) (by first | assumption | omega | (refine hOn.eq op1 (fun j => ?_); rw [show (60 * u.toInt + w.toInt).toNat = z4.toInt.toNat by omega, show (60 * x.toInt + y.toInt).toNat = z2.toInt.toNat by omega])) (by first | assumption | omega | (refine hOn.eq op1 (fun j => ?_); rw [show (60 * u.toInt + w.toInt).toNat = z4.toInt.toNat by omega, show (60 * x.toInt + y.toInt).toNat = z2.toInt.toNat by omega])) (by first | assumption | omega | (refine hOn.eq op1 (fun j => ?_); rw [show (60 * u.toInt + w.toInt).toNat = z4.toInt.toNat by omega, show (60 * x.toInt + y.toInt).toNat = z2.toInt.toNat by omega])) (by first | assumption | omega | (refine hOn.eq op1 (fun j => ?_); rw [show (60 * u.toInt + w.toInt).toNat = z4.toInt.toNat by omega, show (60 * x.toInt + y.toInt).toNat = z2.toInt.toNat by omega])) (by first | assumption | omega | (refine hOn.eq op1 (fun j => ?_); rw [show (60 * u.toInt + w.toInt).toNat = z4.toInt.toNat by omega, show (60 * x.toInt + y.toInt).toNat = z2.toInt.toNat by omega])) (by first | assumption | omega | (refine hOn.eq op1 (fun j => ?_); rw [show (60 * u.toInt + w.toInt).toNat = z4.toInt.toNat by omega, show (60 * x.toInt + y.toInt).toNat = z2.toInt.toNat by omega])) (by first | assumption | omega | (refine hOn.eq op1 (fun j => ?_); rw [show (60 * u.toInt + w.toInt).toNat = z4.toInt.toNat by omega, show (60 * x.toInt + y.toInt).toNat = z2.toInt.toNat by omega])) (by first | assumption | omega | (refine hOn.eq op1 (fun j => ?_); rw [show (60 * u.toInt + w.toInt).toNat = z4.toInt.toNat by omega, show (60 * x.toInt + y.toInt).toNat = z2.toInt.toNat by omega])) (by first | assumption | omega | (refine hOn.eq op1 (fun j => ?_); rw [show (60 * u.toInt + w.toInt).toNat = z4.toInt.toNat by omega, show (60 * x.toInt + y.toInt).toNat = z2.toInt.toNat by omega]))) | (exfalso; omega)
            ·
              intro h18
              refine hp_id (st := [.int 0]) ?_
              refine hp_go (pc' := 76) rfl rfl rfl ?_
              refine hp_s (pc' := 78) (st' := [.int (-13)]) rfl rfl rfl ?_
              refine hp_ri rfl rfl ?_
              first | (exact k2 (by first | assumption | omega | (refine hOn.eq op1 (fun j => ?_); rw [show (60 * u.toInt + w.toInt).toNat = z4.toInt.toNat by omega, show (60 * x.toInt + y.toInt).toNat = z2.toInt.toNat by omega])) (by first | assumption | omega | (refine hOn.eq op1 (fun j => ?_); rw [show (60 * u.toInt + w.toInt).toNat = z4.toInt.toNat by omega, show (60 * x.toInt + y.toInt).toNat = z2.toInt.toNat by omega])) (by first | assumption | omega | (refine hOn.eq op1 (fun j => ?_); rw [show (60 * u.toInt + w.toInt).toNat = z4.toInt.toNat by omega, show (60 * x.toInt + y.toInt).toNat = z2.toInt.toNat by omega])) (by first | assumption | omega | (refine hOn.eq op1 (fun j => ?_); rw [show (60 * u.toInt + w.toInt).toNat = z4.toInt.toNat by omega, show (60 * x.toInt + y.toInt).toNat = z2.toInt.toNat by omega]))) | (exact k3 _ _ (by first | assumption | omega | (refine hOn.eq op1 (fun j => ?_); rw [show (60 * u.toInt + w.toInt).toNat = z4.toInt.toNat by omega, show (60 * x.toInt + y.toInt).toNat = z2.toInt.toNat by omega])) (by first | assumption | omega | (refine hOn.eq op1 (fun j => ?_); rw [show (60 * u.toInt + w.toInt).toNat = z4.toInt.toNat by omega, show (60 * x.toInt + y.toInt).toNat = z2.toInt.toNat by omega])) (by first | assumption | omega | (refine hOn.eq op1 (fun j => ?_); rw [show (60 * u.toInt + w.toInt).toNat = z4.toInt.toNat by omega, show (60 * x.toInt + y.toInt).toNat = z2.toInt.toNat by omega])) (by first | assumption | omega | (refine hOn.eq op1 (fun j => ?_); rw [show (60 * u.toInt + w.toInt).toNat = z4.toInt.toNat by omega, show (60 * x.toInt + y.toInt).toNat = z2.toInt.toNat by omega])) (by first | assumption | omega | (refine hOn.eq op1 (fun j => ?_); rw [show (60 * u.toInt + w.toInt).toNat = z4.toInt.toNat by omega, show (60 * x.toInt + y.toInt).toNat = z2.toInt.toNat by omega])) (by first | assumption | omega | (refine hOn.eq op1 (fun j => ?_); rw [show (60 * u.toInt + w.toInt).toNat = z4.toInt.toNat by omega, show (60 * x.toInt + y.toInt).toNat = z2.toInt.toNat by omega])) (by first | assumption | omega | (refine hOn.eq op1 (fun j => ?_); rw [show (60 * u.toInt + w.toInt).toNat = z4.toInt.toNat by omega, show (60 * x.toInt + y.toInt).toNat = z2.toInt.toNat by omega])) (by first | assumption | omega | (refine hOn.eq op1 (fun j => ?_); rw [show (60 * u.toInt + w.toInt).toNat = z4.toInt.toNat by omega, show (60 * x.toInt + y.toInt).toNat = z2.toInt.toNat by omega])) (by first | assumption | omega | (refine hOn.eq op1 (fun j => ?_); rw [show (60 * u.toInt + w.toInt).toNat = z4.toInt.toNat by omega, show (60 * x.toInt + y.toInt).toNat = z2.toInt.toNat by omega])) (by first | assumption | omega | (refine hOn.eq op1 (fun j => ?_); rw [show (60 * u.toInt + w.toInt).toNat = z4.toInt.toNat by omega, show (60 * x.toInt + y.toInt).toNat = z2.toInt.toNat by omega]))) | (exfalso; omega)
        ·
          intro h19 h20 h21
          refine hp_id (st := [.int 0]) ?_
          refine hp_go (pc' := 45) rfl rfl rfl ?_
          refine hp_s (pc' := 47) (st' := [.int (-12)]) rfl rfl rfl ?_
          refine hp_ri rfl rfl ?_
          first | (exact k1 (by first | assumption | omega | (refine hOn.eq op1 (fun j => ?_); rw [show (60 * u.toInt + w.toInt).toNat = z4.toInt.toNat by omega, show (60 * x.toInt + y.toInt).toNat = z2.toInt.toNat by omega])) (by first | assumption | omega | (refine hOn.eq op1 (fun j => ?_); rw [show (60 * u.toInt + w.toInt).toNat = z4.toInt.toNat by omega, show (60 * x.toInt + y.toInt).toNat = z2.toInt.toNat by omega])) (by first | assumption | omega | (refine hOn.eq op1 (fun j => ?_); rw [show (60 * u.toInt + w.toInt).toNat = z4.toInt.toNat by omega, show (60 * x.toInt + y.toInt).toNat = z2.toInt.toNat by omega]))) | (exact k3 _ _ (by first | assumption | omega | (refine hOn.eq op1 (fun j => ?_); rw [show (60 * u.toInt + w.toInt).toNat = z4.toInt.toNat by omega, show (60 * x.toInt + y.toInt).toNat = z2.toInt.toNat by omega])) (by first | assumption | omega | (refine hOn.eq op1 (fun j => ?_); rw [show (60 * u.toInt + w.toInt).toNat = z4.toInt.toNat by omega, show (60 * x.toInt + y.toInt).toNat = z2.toInt.toNat by omega])) (by first | assumption | omega | (refine hOn.eq op1 (fun j => ?_); rw [show (60 * u.toInt + w.toInt).toNat = z4.toInt.toNat by omega, show (60 * x.toInt + y.toInt).toNat = z2.toInt.toNat by omega])) (by first | assumption | omega | (refine hOn.eq op1 (fun j => ?_); rw [show (60 * u.toInt + w.toInt).toNat = z4.toInt.toNat by omega, show (60 * x.toInt + y.toInt).toNat = z2.toInt.toNat by omega])) (by first | assumption | omega | (refine hOn.eq op1 (fun j => ?_); rw [show (60 * u.toInt + w.toInt).toNat = z4.toInt.toNat by omega, show (60 * x.toInt + y.toInt).toNat = z2.toInt.toNat by omega])) (by first | assumption | omega | (refine hOn.eq op1 (fun j => ?_); rw [show (60 * u.toInt + w.toInt).toNat = z4.toInt.toNat by omega, show (60 * x.toInt + y.toInt).toNat = z2.toInt.toNat by omega])) (by first | assumption | omega | (refine hOn.eq op1 (fun j => ?_); rw [show (60 * u.toInt + w.toInt).toNat = z4.toInt.toNat by omega, show (60 * x.toInt + y.toInt).toNat = z2.toInt.toNat by omega])) (by first | assumption | omega | (refine hOn.eq op1 (fun j => ?_); rw [show (60 * u.toInt + w.toInt).toNat = z4.toInt.toNat by omega, show (60 * x.toInt + y.toInt).toNat = z2.toInt.toNat by omega])) (by first | assumption | omega | (refine hOn.eq op1 (fun j => ?_); rw [show (60 * u.toInt + w.toInt).toNat = z4.toInt.toNat by omega, show (60 * x.toInt + y.toInt).toNat = z2.toInt.toNat by omega])) (by first | assumption | omega | (refine hOn.eq op1 (fun j => ?_); rw [show (60 * u.toInt + w.toInt).toNat = z4.toInt.toNat by omega, show (60 * x.toInt + y.toInt).toNat = z2.toInt.toNat by omega]))) | (exfalso; omega)
    ·
      refine hp_s (pc' := 20) (st' := [.int (-11)]) rfl rfl rfl ?_
      refine hp_ri rfl rfl ?_
      first | (exact k0 (by first | assumption | omega | (refine hOn.eq op1 (fun j => ?_); rw [show (60 * u.toInt + w.toInt).toNat = z4.toInt.toNat by omega, show (60 * x.toInt + y.toInt).toNat = z2.toInt.toNat by omega]))) | (exact k3 _ _ (by first | assumption | omega | (refine hOn.eq op1 (fun j => ?_); rw [show (60 * u.toInt + w.toInt).toNat = z4.toInt.toNat by omega, show (60 * x.toInt + y.toInt).toNat = z2.toInt.toNat by omega])) (by first | assumption | omega | (refine hOn.eq op1 (fun j => ?_); rw [show (60 * u.toInt + w.toInt).toNat = z4.toInt.toNat by omega, show (60 * x.toInt + y.toInt).toNat = z2.toInt.toNat by omega])) (by first | assumption | omega | (refine hOn.eq op1 (fun j => ?_); rw [show (60 * u.toInt + w.toInt).toNat = z4.toInt.toNat by omega, show (60 * x.toInt + y.toInt).toNat = z2.toInt.toNat by omega])) (by first | assumption | omega | (refine hOn.eq op1 (fun j => ?_); rw [show (60 * u.toInt + w.toInt).toNat = z4.toInt.toNat by omega, show (60 * x.toInt + y.toInt).toNat = z2.toInt.toNat by omega])) (by first | assumption | omega | (refine hOn.eq op1 (fun j => ?_); rw [show (60 * u.toInt + w.toInt).toNat = z4.toInt.toNat by omega, show (60 * x.toInt + y.toInt).toNat = z2.toInt.toNat by omega])) (by first | assumption | omega | (refine hOn.eq op1 (fun j => ?_); rw [show (60 * u.toInt + w.toInt).toNat = z4.toInt.toNat by omega, show (60 * x.toInt + y.toInt).toNat = z2.toInt.toNat by omega])) (by first | assumption | omega | (refine hOn.eq op1 (fun j => ?_); rw [show (60 * u.toInt + w.toInt).toNat = z4.toInt.toNat by omega, show (60 * x.toInt + y.toInt).toNat = z2.toInt.toNat by omega])) (by first | assumption | omega | (refine hOn.eq op1 (fun j => ?_); rw [show (60 * u.toInt + w.toInt).toNat = z4.toInt.toNat by omega, show (60 * x.toInt + y.toInt).toNat = z2.toInt.toNat by omega])) (by first | assumption | omega | (refine hOn.eq op1 (fun j => ?_); rw [show (60 * u.toInt + w.toInt).toNat = z4.toInt.toNat by omega, show (60 * x.toInt + y.toInt).toNat = z2.toInt.toNat by omega])) (by first | assumption | omega | (refine hOn.eq op1 (fun j => ?_); rw [show (60 * u.toInt + w.toInt).toNat = z4.toInt.toNat by omega, show (60 * x.toInt + y.toInt).toNat = z2.toInt.toNat by omega]))) | (exfalso; omega)
theorem X_shift {ro : List (List Int32)} {n d : Nat} {p : xH} {Q : Option Value → xH → Prop} {x : Int32} {xi : Int} {y : Int32} {yi : Int} {u : Int32} {ui : Int} {w : Int32} {wi : Int} {c : Int32} {ci : Int} (hx : x.toInt = xi) (hy : y.toInt = yi) (hu : u.toInt = ui) (hw : w.toInt = wi) (hc : c.toInt = ci) (pre0 : 0 ≤ (rI p 64 xi.toNat).toInt) (pre1 : (rI p 64 xi.toNat).toInt ≤ 60) (pre2 : 0 ≤ (rI p 64 ui.toNat).toInt) (pre3 : (rI p 64 ui.toNat).toInt ≤ 60) (k0 : (¬ (0 ≤ xi ∧ xi < 6 ∧ 0 ≤ ui ∧ ui < 6)) → Q (some (.int (-1))) p) (k1 : (0 ≤ xi) → (xi < 6) → (0 ≤ ui) → (ui < 6) → ((rI p 61 xi.toNat).toInt = 0 ∨ (rI p 61 ui.toNat).toInt = 0) → Q (some (.int (-11))) p) (k2 : (0 ≤ xi) → (xi < 6) → (0 ≤ ui) → (ui < 6) → ((rI p 61 xi.toNat).toInt ≠ 0) → ((rI p 61 ui.toNat).toInt ≠ 0) → (¬ ((rI p 61 xi.toNat).toInt = 2 ∧ (rI p 61 ui.toNat).toInt = 2 ∧ (rI p 63 ui.toNat).toInt = (rI p 63 xi.toNat).toInt)) → Q (some (.int (-12))) p) (k3 : (0 ≤ xi) → (xi < 6) → (0 ≤ ui) → (ui < 6) → ((rI p 61 xi.toNat).toInt = 2) → ((rI p 61 ui.toNat).toInt = 2) → ((rI p 63 ui.toNat).toInt = (rI p 63 xi.toNat).toInt) → (¬ (0 ≤ ci ∧ 0 ≤ yi ∧ yi + ci ≤ (rI p 64 xi.toNat).toInt ∧ 0 ≤ wi ∧ wi + ci ≤ (rI p 64 ui.toNat).toInt)) → Q (some (.int (-13))) p) (k4 : ∀ z : Int32, ∀ p2 : xH, (0 ≤ xi) → (xi < 6) → (0 ≤ ui) → (ui < 6) → ((rI p 61 xi.toNat).toInt = 2) → ((rI p 61 ui.toNat).toInt = 2) → ((rI p 63 ui.toNat).toInt = (rI p 63 xi.toNat).toInt) → (0 ≤ ci) → (0 ≤ yi) → (yi + ci ≤ (rI p 64 xi.toNat).toInt) → (0 ≤ wi) → (wi + ci ≤ (rI p 64 ui.toNat).toInt) → (hOn 65 (fun j => if (60 * ui + wi).toNat ≤ j ∧ j < (60 * ui + wi).toNat + ci.toNat then rV p 65 ((60 * xi + yi).toNat + (j - (60 * ui + wi).toNat)) else rV p 65 j) p p2) → (z.toInt = ci) → Q (some (.int z)) p2) : hP ro n d (11, 6, 1, 1, k169) 0 (lv_args 0 [.ref 0, .int x, .int y, .int u, .int w, .int c]) [] p Q := by
  subst hx
  subst hy
  subst hu
  subst hw
  subst hc
  refine hp_id (ls := [(0, .ref 0), (1, .int x), (2, .int y), (3, .int u), (4, .int w), (5, .int c)]) ?_
  refine hp_s (pc' := 1) (st' := [.ref 0]) rfl rfl rfl ?_
  refine hp_getr (k := 13) (w := .ref 60) (pc' := 4) rfl rfl rfl rfl rfl ?_
  refine hp_s (pc' := 5) (st' := [.int x, .ref 60]) rfl rfl rfl ?_
  refine hp_cv (r := 60) (o := 6) (kd := 1) (as := [.int x]) (rest := []) (pc' := 8) rfl rfl rfl rfl rfl rfl rfl rfl rfl (fun d1 => ?_)
  refine s_isShelf (xi := x.toInt) rfl ?_ ?_
  ·
    intro h1 h2
    refine hp_id (st := [.int 1]) ?_
    refine hp_go (pc' := 11) rfl rfl rfl ?_
    refine hp_s (pc' := 12) (st' := [.ref 0]) rfl rfl rfl ?_
    refine hp_getr (k := 13) (w := .ref 60) (pc' := 15) rfl rfl rfl rfl rfl ?_
    refine hp_s (pc' := 16) (st' := [.int u, .ref 60]) rfl rfl rfl ?_
    refine hp_cv (r := 60) (o := 6) (kd := 1) (as := [.int u]) (rest := []) (pc' := 19) rfl rfl rfl rfl rfl rfl rfl rfl rfl (fun d2 => ?_)
    refine s_isShelf (xi := u.toInt) rfl ?_ ?_
    ·
      intro h3 h4
      refine hp_id (st := [.int 1]) ?_
      refine hp_go (pc' := 24) rfl rfl rfl ?_
      refine hp_s (pc' := 25) (st' := [.ref 0]) rfl rfl rfl ?_
      refine hp_getr (k := 13) (w := .ref 60) (pc' := 28) rfl rfl rfl rfl rfl ?_
      refine hp_s (pc' := 29) (st' := [.int x, .ref 60]) rfl rfl rfl ?_
      refine hp_s (pc' := 30) (st' := [.int y, .int x, .ref 60]) rfl rfl rfl ?_
      refine hp_s (pc' := 31) (st' := [.int u, .int y, .int x, .ref 60]) rfl rfl rfl ?_
      refine hp_s (pc' := 33) (st' := [.int w, .int u, .int y, .int x, .ref 60]) rfl rfl rfl ?_
      refine hp_s (pc' := 35) (st' := [.int c, .int w, .int u, .int y, .int x, .ref 60]) rfl rfl rfl ?_
      refine hp_cv (r := 60) (o := 6) (kd := 1) (as := [.int x, .int y, .int u, .int w, .int c]) (rest := []) (pc' := 38) rfl rfl rfl rfl rfl rfl rfl rfl rfl (fun d3 => ?_)
      refine s_move (xi := x.toInt) rfl (yi := y.toInt) rfl (ui := u.toInt) rfl (wi := w.toInt) rfl (ci := c.toInt) rfl (by first | assumption | omega) (by first | assumption | omega) (by first | assumption | omega) (by first | assumption | omega) (by first | assumption | omega) (by first | assumption | omega) (by first | assumption | omega) (by first | assumption | omega) ?_ ?_ ?_ ?_
      ·
        intro h5
        refine hp_id (st := [.int (-11)]) ?_
        refine hp_ri rfl rfl ?_
        first | (exact k1 (by first | assumption | omega) (by first | assumption | omega) (by first | assumption | omega) (by first | assumption | omega) (by first | assumption | omega)) | (exact k4 _ _ (by first | assumption | omega) (by first | assumption | omega) (by first | assumption | omega) (by first | assumption | omega) (by first | assumption | omega) (by first | assumption | omega) (by first | assumption | omega) (by first | assumption | omega) (by first | assumption | omega) (by first | assumption | omega) (by first | assumption | omega) (by first | assumption | omega) (by first | assumption | omega) (by first | assumption | omega)) | (exfalso; omega)
      ·
        intro h6 h7 h8
        refine hp_id (st := [.int (-12)]) ?_
        refine hp_ri rfl rfl ?_
        first | (exact k2 (by first | assumption | omega) (by first | assumption | omega) (by first | assumption | omega) (by first | assumption | omega) (by first | assumption | omega) (by first | assumption | omega) (by first | assumption | omega)) | (exact k4 _ _ (by first | assumption | omega) (by first | assumption | omega) (by first | assumption | omega) (by first | assumption | omega) (by first | assumption | omega) (by first | assumption | omega) (by first | assumption | omega) (by first | assumption | omega) (by first | assumption | omega) (by first | assumption | omega) (by first | assumption | omega) (by first | assumption | omega) (by first | assumption | omega) (by first | assumption | omega)) | (exfalso; omega)
      ·
        intro h9 h10 h11 h12
        refine hp_id (st := [.int (-13)]) ?_
        refine hp_ri rfl rfl ?_
        first | (exact k3 (by first | assumption | omega) (by first | assumption | omega) (by first | assumption | omega) (by first | assumption | omega) (by first | assumption | omega) (by first | assumption | omega) (by first | assumption | omega) (by first | assumption | omega)) | (exact k4 _ _ (by first | assumption | omega) (by first | assumption | omega) (by first | assumption | omega) (by first | assumption | omega) (by first | assumption | omega) (by first | assumption | omega) (by first | assumption | omega) (by first | assumption | omega) (by first | assumption | omega) (by first | assumption | omega) (by first | assumption | omega) (by first | assumption | omega) (by first | assumption | omega) (by first | assumption | omega)) | (exfalso; omega)
      ·
        intro y1 p1 h13 h14 h15 h16 h17 h18 h19 h20 h21 h22
        refine hp_id (st := [.int y1]) ?_
        refine hp_ri rfl rfl ?_
        first | (exact k0 (by first | assumption | omega)) | (exact k1 (by first | assumption | omega) (by first | assumption | omega) (by first | assumption | omega) (by first | assumption | omega) (by first | assumption | omega)) | (exact k2 (by first | assumption | omega) (by first | assumption | omega) (by first | assumption | omega) (by first | assumption | omega) (by first | assumption | omega) (by first | assumption | omega) (by first | assumption | omega)) | (exact k3 (by first | assumption | omega) (by first | assumption | omega) (by first | assumption | omega) (by first | assumption | omega) (by first | assumption | omega) (by first | assumption | omega) (by first | assumption | omega) (by first | assumption | omega)) | (exact k4 _ _ (by first | assumption | omega) (by first | assumption | omega) (by first | assumption | omega) (by first | assumption | omega) (by first | assumption | omega) (by first | assumption | omega) (by first | assumption | omega) (by first | assumption | omega) (by first | assumption | omega) (by first | assumption | omega) (by first | assumption | omega) (by first | assumption | omega) (by first | assumption | omega) (by first | assumption | omega)) | (exfalso; omega)
    ·
      intro h23
      refine hp_id (st := [.int 0]) ?_
      refine hp_go (pc' := 22) rfl rfl rfl ?_
      refine hp_s (pc' := 23) (st' := [.int (-1)]) rfl rfl rfl ?_
      refine hp_ri rfl rfl ?_
      first | (exact k0 (by first | assumption | omega)) | (exact k4 _ _ (by first | assumption | omega) (by first | assumption | omega) (by first | assumption | omega) (by first | assumption | omega) (by first | assumption | omega) (by first | assumption | omega) (by first | assumption | omega) (by first | assumption | omega) (by first | assumption | omega) (by first | assumption | omega) (by first | assumption | omega) (by first | assumption | omega) (by first | assumption | omega) (by first | assumption | omega)) | (exfalso; omega)
  ·
    intro h24
    refine hp_id (st := [.int 0]) ?_
    refine hp_go (pc' := 22) rfl rfl rfl ?_
    refine hp_s (pc' := 23) (st' := [.int (-1)]) rfl rfl rfl ?_
    refine hp_ri rfl rfl ?_
    first | (exact k0 (by first | assumption | omega)) | (exact k4 _ _ (by first | assumption | omega) (by first | assumption | omega) (by first | assumption | omega) (by first | assumption | omega) (by first | assumption | omega) (by first | assumption | omega) (by first | assumption | omega) (by first | assumption | omega) (by first | assumption | omega) (by first | assumption | omega) (by first | assumption | omega) (by first | assumption | omega) (by first | assumption | omega) (by first | assumption | omega)) | (exfalso; omega)
theorem lp_270b {ro : List (List Int32)} {d : Nat} {Q : Option Value → xH → Prop} {x y u w c : Int32} {pb : xH} (g1 : 0 ≤ x.toInt) (g2 : x.toInt < 6) (g3 : 0 ≤ u.toInt) (g4 : u.toInt < 6) (g5 : 0 ≤ c.toInt) (g6 : 0 ≤ y.toInt) (g7 : y.toInt + c.toInt ≤ 60) (g8 : 0 ≤ w.toInt) (g9 : w.toInt + c.toInt ≤ 60) (K : ∀ p2, hOn 99 (fun j => if (60 * u.toInt + w.toInt).toNat ≤ j ∧ j < (60 * u.toInt + w.toInt).toNat + c.toInt.toNat then rV pb 100 (j - (60 * u.toInt + w.toInt).toNat) else rV pb 99 j) pb p2 → Q (some (.int c)) p2) : ∀ (n : Nat) (k : Int32) (p : xH), (0 ≤ k.toInt) → (k.toInt ≤ c.toInt) → (hOn 99 (fun j => if (60 * u.toInt + w.toInt).toNat ≤ j ∧ j < (60 * u.toInt + w.toInt).toNat + k.toInt.toNat then rV pb 100 (j - (60 * u.toInt + w.toInt).toNat) else rV pb 99 j) pb p) → hP ro n d (12, 7, 1, 1, k270) 150 [(6, .int k), (0, .ref 66), (1, .int x), (2, .int y), (3, .int u), (4, .int w), (5, .int c)] [] p Q := by
  intro n
  induction n with
  | zero => intros; exact hp_0
  | succ n ih =>
    intro k p h1 h2 hO
    refine hp_hw (fun wp => ?_)
    refine hp_s1 (pc' := 152) (st' := [.int k]) rfl rfl rfl ?_
    refine hp_s (pc' := 154) (st' := [.int c, .int k]) rfl rfl rfl ?_
    refine hp_ic (pc' := 157) (t := 185) (a := k.toInt) (b := c.toInt) rfl rfl rfl rfl rfl (fun (h1 : c.toInt ≤ k.toInt) => ?_) (fun (h2 : ¬ (c.toInt ≤ k.toInt)) => ?_)
    ·
      refine hp_s (pc' := 187) (st' := [.int c]) rfl rfl rfl ?_
      refine hp_ri rfl rfl ?_
      exact K _ (hO.eq (fun j => by rw [show k.toInt.toNat = c.toInt.toNat by omega]))
    ·
      refine hp_s (pc' := 158) (st' := [.ref 66]) rfl rfl rfl ?_
      refine hp_getr (k := 52) (w := .ref 99) (pc' := 161) rfl rfl rfl rfl rfl ?_
      refine hp_s (pc' := 163) (st' := [.int 60, .ref 99]) rfl rfl rfl ?_
      refine hp_s (pc' := 164) (st' := [.int u, .int 60, .ref 99]) rfl rfl rfl ?_
      refine hp_z (pc' := 165) (e := 60 * u) (st' := [.ref 99]) rfl rfl rfl ?_
      intro z1 hz1
      have ez1 := i_mul hz1 (show (60 : Int32).toInt = 60 from by decide) (show u.toInt = u.toInt from rfl)
      refine hp_s (pc' := 167) (st' := [.int w, .int z1, .ref 99]) rfl rfl rfl ?_
      refine hp_z (pc' := 168) (e := z1 + w) (st' := [.ref 99]) rfl rfl rfl ?_
      intro z2 hz2
      have ez2 := i_add hz2 (show z1.toInt = z1.toInt from rfl) (show w.toInt = w.toInt from rfl)
      refine hp_s (pc' := 170) (st' := [.int k, .int z2, .ref 99]) rfl rfl rfl ?_
      refine hp_z (pc' := 171) (e := z2 + k) (st' := [.ref 99]) rfl rfl rfl ?_
      intro z3 hz3
      have ez3 := i_add hz3 (show z2.toInt = z2.toInt from rfl) (show k.toInt = k.toInt from rfl)
      refine hp_s (pc' := 172) (st' := [.ref 66, .int z3, .ref 99]) rfl rfl rfl ?_
      refine hp_getr (k := 53) (w := .ref 100) (pc' := 175) rfl rfl rfl rfl rfl ?_
      refine hp_s (pc' := 177) (st' := [.int k, .ref 100, .int z3, .ref 99]) rfl rfl rfl ?_
      refine hp_ldl (v := (rJ p 100 k.toInt.toNat)) rfl rfl rfl rfl ?_
      intro (g1a : 0 ≤ k.toInt) (g1b : k.toInt < 60)
      refine hp_stl rfl rfl rfl ?_
      intro p1 wp1 (p1a : 0 ≤ z3.toInt) (p1b : z3.toInt < 360) ep1
      refine hp_inc (L := fun z => [(6, .int z), (0, .ref 66), (1, .int x), (2, .int y), (3, .int u), (4, .int w), (5, .int c)]) (pc' := 182) rfl rfl rfl (fun _ => rfl) rfl ?_
      intro z4 hz4
      have ez4 := i_add hz4 (show k.toInt = k.toInt from rfl) (show (Int32.ofInt 1).toInt = 1 from by decide)
      refine hp_go (pc' := 150) rfl rfl rfl ?_
      refine ih _ _ (by omega) (by omega) ?_
      rw [ep1]
      refine (hO.w wp1 (by show _ < 360; omega)).eq (fun j => if_fillf (i := z3.toInt.toNat) (a := (60 * u.toInt + w.toInt).toNat) (b := (60 * u.toInt + w.toInt).toNat + k.toInt.toNat) (b' := (60 * u.toInt + w.toInt).toNat + z4.toInt.toNat) (f := fun j => rV pb 100 (j - (60 * u.toInt + w.toInt).toNat)) (by omega) (by omega) (by omega) ?_)
      show Value.long (rJ p 100 k.toInt.toNat) = rV pb 100 ((60 * u.toInt + w.toInt).toNat + k.toInt.toNat - (60 * u.toInt + w.toInt).toNat)
      rw [show (60 * u.toInt + w.toInt).toNat + k.toInt.toNat - (60 * u.toInt + w.toInt).toNat = k.toInt.toNat by omega, ← hO.1 100 _ (by decide)]
      exact (rV_long wp (r := 100) rfl (by show _ < 60; omega)).symm
theorem lp_270a {ro : List (List Int32)} {d : Nat} {Q : Option Value → xH → Prop} {x y u w c : Int32} {p0 : xH} (g1 : 0 ≤ x.toInt) (g2 : x.toInt < 6) (g3 : 0 ≤ u.toInt) (g4 : u.toInt < 6) (g5 : 0 ≤ c.toInt) (g6 : 0 ≤ y.toInt) (g7 : y.toInt + c.toInt ≤ 60) (g8 : 0 ≤ w.toInt) (g9 : w.toInt + c.toInt ≤ 60) (K : ∀ p1 p2, hOn 100 (fun j => if 0 ≤ j ∧ j < c.toInt.toNat then rV p0 99 ((60 * x.toInt + y.toInt).toNat + j) else rV p0 100 j) p0 p1 → hOn 99 (fun j => if (60 * u.toInt + w.toInt).toNat ≤ j ∧ j < (60 * u.toInt + w.toInt).toNat + c.toInt.toNat then rV p1 100 (j - (60 * u.toInt + w.toInt).toNat) else rV p1 99 j) p1 p2 → Q (some (.int c)) p2) : ∀ (n : Nat) (k : Int32) (p : xH), (0 ≤ k.toInt) → (k.toInt ≤ c.toInt) → (hOn 100 (fun j => if 0 ≤ j ∧ j < k.toInt.toNat then rV p0 99 ((60 * x.toInt + y.toInt).toNat + j) else rV p0 100 j) p0 p) → hP ro n d (12, 7, 1, 1, k270) 113 [(6, .int k), (0, .ref 66), (1, .int x), (2, .int y), (3, .int u), (4, .int w), (5, .int c)] [] p Q := by
  intro n
  induction n with
  | zero => intros; exact hp_0
  | succ n ih =>
    intro k p h1 h2 hO
    refine hp_hw (fun wp => ?_)
    have K2 : k.toInt.toNat = c.toInt.toNat → ∀ p2, hOn 99 (fun j => if (60 * u.toInt + w.toInt).toNat ≤ j ∧ j < (60 * u.toInt + w.toInt).toNat + c.toInt.toNat then rV p 100 (j - (60 * u.toInt + w.toInt).toNat) else rV p 99 j) p p2 → Q (some (.int c)) p2 := fun e p2 o => K p p2 (hO.eq (fun j => by rw [e])) o
    refine hp_s1 (pc' := 115) (st' := [.int k]) rfl rfl rfl ?_
    refine hp_s (pc' := 117) (st' := [.int c, .int k]) rfl rfl rfl ?_
    refine hp_ic (pc' := 120) (t := 147) (a := k.toInt) (b := c.toInt) rfl rfl rfl rfl rfl (fun (h1 : c.toInt ≤ k.toInt) => ?_) (fun (h2 : ¬ (c.toInt ≤ k.toInt)) => ?_)
    ·
      refine hp_s (pc' := 148) (st' := [.int 0]) rfl rfl rfl ?_
      refine hp_s (pc' := 150) (ls' := [(6, .int 0), (0, .ref 66), (1, .int x), (2, .int y), (3, .int u), (4, .int w), (5, .int c)]) (st' := []) rfl rfl rfl ?_
      have K2 := K2 (by omega)
      exact lp_270b (pb := p) (by omega) (by omega) (by omega) (by omega) (by omega) (by omega) (by omega) (by omega) (by omega) K2 n 0 _ (by decide) (by have h00 : (0 : Int32).toInt = 0 := (by decide); omega) ((hOn.refl 99 _).eq (fun j => by rw [if_neg (by have h00 : (0 : Int32).toInt = 0 := (by decide); omega)]))
    ·
      refine hp_s (pc' := 121) (st' := [.ref 66]) rfl rfl rfl ?_
      refine hp_getr (k := 53) (w := .ref 100) (pc' := 124) rfl rfl rfl rfl rfl ?_
      refine hp_s (pc' := 126) (st' := [.int k, .ref 100]) rfl rfl rfl ?_
      refine hp_s (pc' := 127) (st' := [.ref 66, .int k, .ref 100]) rfl rfl rfl ?_
      refine hp_getr (k := 52) (w := .ref 99) (pc' := 130) rfl rfl rfl rfl rfl ?_
      refine hp_s (pc' := 132) (st' := [.int 60, .ref 99, .int k, .ref 100]) rfl rfl rfl ?_
      refine hp_s (pc' := 133) (st' := [.int x, .int 60, .ref 99, .int k, .ref 100]) rfl rfl rfl ?_
      refine hp_z (pc' := 134) (e := 60 * x) (st' := [.ref 99, .int k, .ref 100]) rfl rfl rfl ?_
      intro z1 hz1
      have ez1 := i_mul hz1 (show (60 : Int32).toInt = 60 from by decide) (show x.toInt = x.toInt from rfl)
      refine hp_s (pc' := 135) (st' := [.int y, .int z1, .ref 99, .int k, .ref 100]) rfl rfl rfl ?_
      refine hp_z (pc' := 136) (e := z1 + y) (st' := [.ref 99, .int k, .ref 100]) rfl rfl rfl ?_
      intro z2 hz2
      have ez2 := i_add hz2 (show z1.toInt = z1.toInt from rfl) (show y.toInt = y.toInt from rfl)
      refine hp_s (pc' := 138) (st' := [.int k, .int z2, .ref 99, .int k, .ref 100]) rfl rfl rfl ?_
      refine hp_z (pc' := 139) (e := z2 + k) (st' := [.ref 99, .int k, .ref 100]) rfl rfl rfl ?_
      intro z3 hz3
      have ez3 := i_add hz3 (show z2.toInt = z2.toInt from rfl) (show k.toInt = k.toInt from rfl)
      refine hp_ldl (v := (rJ p 99 z3.toInt.toNat)) rfl rfl rfl rfl ?_
      intro (g1a : 0 ≤ z3.toInt) (g1b : z3.toInt < 360)
      refine hp_stl rfl rfl rfl ?_
      intro p1 wp1 (p1a : 0 ≤ k.toInt) (p1b : k.toInt < 60) ep1
      refine hp_inc (L := fun z => [(6, .int z), (0, .ref 66), (1, .int x), (2, .int y), (3, .int u), (4, .int w), (5, .int c)]) (pc' := 144) rfl rfl rfl (fun _ => rfl) rfl ?_
      intro z4 hz4
      have ez4 := i_add hz4 (show k.toInt = k.toInt from rfl) (show (Int32.ofInt 1).toInt = 1 from by decide)
      refine hp_go (pc' := 113) rfl rfl rfl ?_
      refine ih _ _ (by omega) (by omega) ?_
      rw [ep1]
      refine (hO.w wp1 (by show _ < 60; omega)).eq (fun j => if_fillf (i := k.toInt.toNat) (a := 0) (b := k.toInt.toNat) (b' := z4.toInt.toNat) (f := fun j => rV p0 99 ((60 * x.toInt + y.toInt).toNat + j)) (by omega) (by omega) (by omega) ?_)
      show Value.long (rJ p 99 _) = rV p0 99 ((60 * x.toInt + y.toInt).toNat + k.toInt.toNat)
      rw [← hO.1 99 _ (by decide), rV_long wp (r := 99) rfl (by show _ < 360; omega)]
      congr 2; omega
theorem M_shift {ro : List (List Int32)} {n d : Nat} {p : xH} {Q : Option Value → xH → Prop} {x : Int32} {xi : Int} {y : Int32} {yi : Int} {u : Int32} {ui : Int} {w : Int32} {wi : Int} {c : Int32} {ci : Int} (hx : x.toInt = xi) (hy : y.toInt = yi) (hu : u.toInt = ui) (hw : w.toInt = wi) (hc : c.toInt = ci) (pre0 : 0 ≤ (rI p 98 xi.toNat).toInt) (pre1 : (rI p 98 xi.toNat).toInt ≤ 60) (pre2 : 0 ≤ (rI p 98 ui.toNat).toInt) (pre3 : (rI p 98 ui.toNat).toInt ≤ 60) (k0 : (¬ (0 ≤ xi ∧ xi < 6 ∧ 0 ≤ ui ∧ ui < 6)) → Q (some (.int (-1))) p) (k1 : (0 ≤ xi) → (xi < 6) → (0 ≤ ui) → (ui < 6) → ((rI p 97 xi.toNat).toInt < 0 ∨ (rI p 97 ui.toNat).toInt < 0) → Q (some (.int (-11))) p) (k2 : (0 ≤ xi) → (xi < 6) → (0 ≤ ui) → (ui < 6) → (0 ≤ (rI p 97 xi.toNat).toInt) → (0 ≤ (rI p 97 ui.toNat).toInt) → (¬ (50 ≤ (rI p 97 xi.toNat).toInt ∧ (rI p 97 xi.toNat).toInt = (rI p 97 ui.toNat).toInt)) → Q (some (.int (-12))) p) (k3 : (0 ≤ xi) → (xi < 6) → (0 ≤ ui) → (ui < 6) → (50 ≤ (rI p 97 xi.toNat).toInt) → ((rI p 97 xi.toNat).toInt = (rI p 97 ui.toNat).toInt) → (¬ (0 ≤ ci ∧ 0 ≤ yi ∧ yi + ci ≤ (rI p 98 xi.toNat).toInt ∧ 0 ≤ wi ∧ wi + ci ≤ (rI p 98 ui.toNat).toInt)) → Q (some (.int (-13))) p) (k4 : ∀ z : Int32, ∀ p1 : xH, ∀ p2 : xH, (0 ≤ xi) → (xi < 6) → (0 ≤ ui) → (ui < 6) → (50 ≤ (rI p 97 xi.toNat).toInt) → ((rI p 97 xi.toNat).toInt = (rI p 97 ui.toNat).toInt) → (0 ≤ ci) → (0 ≤ yi) → (yi + ci ≤ (rI p 98 xi.toNat).toInt) → (0 ≤ wi) → (wi + ci ≤ (rI p 98 ui.toNat).toInt) → (hOn 100 (fun j => if 0 ≤ j ∧ j < ci.toNat then rV p 99 ((60 * xi + yi).toNat + j) else rV p 100 j) p p1) → (hOn 99 (fun j => if (60 * ui + wi).toNat ≤ j ∧ j < (60 * ui + wi).toNat + ci.toNat then rV p1 100 (j - (60 * ui + wi).toNat) else rV p1 99 j) p1 p2) → (z.toInt = ci) → Q (some (.int z)) p2) : hP ro n d (12, 7, 1, 1, k270) 0 (lv_args 0 [.ref 66, .int x, .int y, .int u, .int w, .int c]) [] p Q := by
  subst hx
  subst hy
  subst hu
  subst hw
  subst hc
  refine hp_id (ls := [(0, .ref 66), (1, .int x), (2, .int y), (3, .int u), (4, .int w), (5, .int c)]) ?_
  refine hp_s (pc' := 1) (st' := [.int x]) rfl rfl rfl ?_
  refine hp_cs (kd := 0) (as := [.int x]) (rest := []) (pc' := 4) rfl rfl rfl rfl rfl rfl rfl (fun d1 => ?_)
  refine s_isShelfM (xi := x.toInt) rfl ?_ ?_
  ·
    intro h1 h2
    refine hp_id (st := [.int 1]) ?_
    refine hp_go (pc' := 7) rfl rfl rfl ?_
    refine hp_s (pc' := 8) (st' := [.int u]) rfl rfl rfl ?_
    refine hp_cs (kd := 0) (as := [.int u]) (rest := []) (pc' := 11) rfl rfl rfl rfl rfl rfl rfl (fun d2 => ?_)
    refine s_isShelfM (xi := u.toInt) rfl ?_ ?_
    ·
      intro h3 h4
      refine hp_id (st := [.int 1]) ?_
      refine hp_go (pc' := 16) rfl rfl rfl ?_
      refine hp_s (pc' := 17) (st' := [.ref 66]) rfl rfl rfl ?_
      refine hp_getr (k := 50) (w := .ref 97) (pc' := 20) rfl rfl rfl rfl rfl ?_
      refine hp_s (pc' := 21) (st' := [.int x, .ref 97]) rfl rfl rfl ?_
      refine hp_ld (t := 100) (v := (rI p 97 x.toInt.toNat)) rfl (.inl rfl) rfl rfl rfl ?_
      intro (g1a : 0 ≤ x.toInt) (g1b : x.toInt < 6)
      refine hp_if (pc' := 25) (t := 34) (a := (rI p 97 x.toInt.toNat).toInt) rfl rfl rfl rfl (fun (h5 : (rI p 97 x.toInt.toNat).toInt < 0) => ?_) (fun (h6 : ¬ ((rI p 97 x.toInt.toNat).toInt < 0)) => ?_)
      ·
        refine hp_s (pc' := 36) (st' := [.int (-11)]) rfl rfl rfl ?_
        refine hp_ri rfl rfl ?_
        first | (exact k1 (by first | assumption | omega) (by first | assumption | omega) (by first | assumption | omega) (by first | assumption | omega) (by first | assumption | omega)) | (exact k4 _ _ _ (by first | assumption | omega) (by first | assumption | omega) (by first | assumption | omega) (by first | assumption | omega) (by first | assumption | omega) (by first | assumption | omega) (by first | assumption | omega) (by first | assumption | omega) (by first | assumption | omega) (by first | assumption | omega) (by first | assumption | omega) (by first | assumption | omega) (by first | assumption | omega) (by first | assumption | omega)) | (exfalso; omega)
      ·
        refine hp_s (pc' := 26) (st' := [.ref 66]) rfl rfl rfl ?_
        refine hp_getr (k := 50) (w := .ref 97) (pc' := 29) rfl rfl rfl rfl rfl ?_
        refine hp_s (pc' := 30) (st' := [.int u, .ref 97]) rfl rfl rfl ?_
        refine hp_ld (t := 100) (v := (rI p 97 u.toInt.toNat)) rfl (.inl rfl) rfl rfl rfl ?_
        intro (g2a : 0 ≤ u.toInt) (g2b : u.toInt < 6)
        refine hp_if (pc' := 34) (t := 37) (a := (rI p 97 u.toInt.toNat).toInt) rfl rfl rfl rfl (fun (h7 : 0 ≤ (rI p 97 u.toInt.toNat).toInt) => ?_) (fun (h8 : ¬ (0 ≤ (rI p 97 u.toInt.toNat).toInt)) => ?_)
        ·
          refine hp_s (pc' := 38) (st' := [.ref 66]) rfl rfl rfl ?_
          refine hp_getr (k := 50) (w := .ref 97) (pc' := 41) rfl rfl rfl rfl rfl ?_
          refine hp_s (pc' := 42) (st' := [.int x, .ref 97]) rfl rfl rfl ?_
          refine hp_ld (t := 100) (v := (rI p 97 x.toInt.toNat)) rfl (.inl rfl) rfl rfl rfl ?_
          intro (g3a : 0 ≤ x.toInt) (g3b : x.toInt < 6)
          refine hp_s (pc' := 45) (st' := [.int 50, .int (rI p 97 x.toInt.toNat)]) rfl rfl rfl ?_
          refine hp_ic (pc' := 48) (t := 63) (a := (rI p 97 x.toInt.toNat).toInt) (b := 50) rfl rfl rfl rfl (by decide) (fun (h9 : (rI p 97 x.toInt.toNat).toInt < 50) => ?_) (fun (h10 : ¬ ((rI p 97 x.toInt.toNat).toInt < 50)) => ?_)
          ·
            refine hp_s (pc' := 65) (st' := [.int (-12)]) rfl rfl rfl ?_
            refine hp_ri rfl rfl ?_
            first | (exact k2 (by first | assumption | omega) (by first | assumption | omega) (by first | assumption | omega) (by first | assumption | omega) (by first | assumption | omega) (by first | assumption | omega) (by first | assumption | omega)) | (exact k4 _ _ _ (by first | assumption | omega) (by first | assumption | omega) (by first | assumption | omega) (by first | assumption | omega) (by first | assumption | omega) (by first | assumption | omega) (by first | assumption | omega) (by first | assumption | omega) (by first | assumption | omega) (by first | assumption | omega) (by first | assumption | omega) (by first | assumption | omega) (by first | assumption | omega) (by first | assumption | omega)) | (exfalso; omega)
          ·
            refine hp_s (pc' := 49) (st' := [.ref 66]) rfl rfl rfl ?_
            refine hp_getr (k := 50) (w := .ref 97) (pc' := 52) rfl rfl rfl rfl rfl ?_
            refine hp_s (pc' := 53) (st' := [.int x, .ref 97]) rfl rfl rfl ?_
            refine hp_ld (t := 100) (v := (rI p 97 x.toInt.toNat)) rfl (.inl rfl) rfl rfl rfl ?_
            intro (g4a : 0 ≤ x.toInt) (g4b : x.toInt < 6)
            refine hp_s (pc' := 55) (st' := [.ref 66, .int (rI p 97 x.toInt.toNat)]) rfl rfl rfl ?_
            refine hp_getr (k := 50) (w := .ref 97) (pc' := 58) rfl rfl rfl rfl rfl ?_
            refine hp_s (pc' := 59) (st' := [.int u, .ref 97, .int (rI p 97 x.toInt.toNat)]) rfl rfl rfl ?_
            refine hp_ld (t := 100) (v := (rI p 97 u.toInt.toNat)) rfl (.inl rfl) rfl rfl rfl ?_
            intro (g5a : 0 ≤ u.toInt) (g5b : u.toInt < 6)
            refine hp_ic (pc' := 63) (t := 66) (a := (rI p 97 x.toInt.toNat).toInt) (b := (rI p 97 u.toInt.toNat).toInt) rfl rfl rfl rfl rfl (fun (h11 : (rI p 97 x.toInt.toNat).toInt = (rI p 97 u.toInt.toNat).toInt) => ?_) (fun (h12 : ¬ ((rI p 97 x.toInt.toNat).toInt = (rI p 97 u.toInt.toNat).toInt)) => ?_)
            ·
              refine hp_s (pc' := 68) (st' := [.int c]) rfl rfl rfl ?_
              refine hp_if (pc' := 71) (t := 107) (a := c.toInt) rfl rfl rfl rfl (fun (h13 : c.toInt < 0) => ?_) (fun (h14 : ¬ (c.toInt < 0)) => ?_)
              ·
                refine hp_s (pc' := 109) (st' := [.int (-13)]) rfl rfl rfl ?_
                refine hp_ri rfl rfl ?_
                first | (exact k3 (by first | assumption | omega) (by first | assumption | omega) (by first | assumption | omega) (by first | assumption | omega) (by first | assumption | omega) (by first | assumption | omega) (by first | assumption | omega)) | (exact k4 _ _ _ (by first | assumption | omega) (by first | assumption | omega) (by first | assumption | omega) (by first | assumption | omega) (by first | assumption | omega) (by first | assumption | omega) (by first | assumption | omega) (by first | assumption | omega) (by first | assumption | omega) (by first | assumption | omega) (by first | assumption | omega) (by first | assumption | omega) (by first | assumption | omega) (by first | assumption | omega)) | (exfalso; omega)
              ·
                refine hp_s (pc' := 72) (st' := [.int y]) rfl rfl rfl ?_
                refine hp_if (pc' := 75) (t := 107) (a := y.toInt) rfl rfl rfl rfl (fun (h15 : y.toInt < 0) => ?_) (fun (h16 : ¬ (y.toInt < 0)) => ?_)
                ·
                  refine hp_s (pc' := 109) (st' := [.int (-13)]) rfl rfl rfl ?_
                  refine hp_ri rfl rfl ?_
                  first | (exact k3 (by first | assumption | omega) (by first | assumption | omega) (by first | assumption | omega) (by first | assumption | omega) (by first | assumption | omega) (by first | assumption | omega) (by first | assumption | omega)) | (exact k4 _ _ _ (by first | assumption | omega) (by first | assumption | omega) (by first | assumption | omega) (by first | assumption | omega) (by first | assumption | omega) (by first | assumption | omega) (by first | assumption | omega) (by first | assumption | omega) (by first | assumption | omega) (by first | assumption | omega) (by first | assumption | omega) (by first | assumption | omega) (by first | assumption | omega) (by first | assumption | omega)) | (exfalso; omega)
                ·
                  refine hp_s (pc' := 77) (st' := [.int w]) rfl rfl rfl ?_
                  refine hp_if (pc' := 80) (t := 107) (a := w.toInt) rfl rfl rfl rfl (fun (h17 : w.toInt < 0) => ?_) (fun (h18 : ¬ (w.toInt < 0)) => ?_)
                  ·
                    refine hp_s (pc' := 109) (st' := [.int (-13)]) rfl rfl rfl ?_
                    refine hp_ri rfl rfl ?_
                    first | (exact k3 (by first | assumption | omega) (by first | assumption | omega) (by first | assumption | omega) (by first | assumption | omega) (by first | assumption | omega) (by first | assumption | omega) (by first | assumption | omega)) | (exact k4 _ _ _ (by first | assumption | omega) (by first | assumption | omega) (by first | assumption | omega) (by first | assumption | omega) (by first | assumption | omega) (by first | assumption | omega) (by first | assumption | omega) (by first | assumption | omega) (by first | assumption | omega) (by first | assumption | omega) (by first | assumption | omega) (by first | assumption | omega) (by first | assumption | omega) (by first | assumption | omega)) | (exfalso; omega)
                  ·
                    refine hp_s (pc' := 81) (st' := [.int y]) rfl rfl rfl ?_
                    refine hp_s (pc' := 82) (st' := [.ref 66, .int y]) rfl rfl rfl ?_
                    refine hp_getr (k := 51) (w := .ref 98) (pc' := 85) rfl rfl rfl rfl rfl ?_
                    refine hp_s (pc' := 86) (st' := [.int x, .ref 98, .int y]) rfl rfl rfl ?_
                    refine hp_ld (t := 100) (v := (rI p 98 x.toInt.toNat)) rfl (.inl rfl) rfl rfl rfl ?_
                    intro (g6a : 0 ≤ x.toInt) (g6b : x.toInt < 6)
                    refine hp_s (pc' := 89) (st' := [.int c, .int (rI p 98 x.toInt.toNat), .int y]) rfl rfl rfl ?_
                    refine hp_z (pc' := 90) (e := (rI p 98 x.toInt.toNat) - c) (st' := [.int y]) rfl rfl rfl ?_
                    intro z1 hz1
                    have ez1 := i_sub hz1 (show (rI p 98 x.toInt.toNat).toInt = (rI p 98 x.toInt.toNat).toInt from rfl) (show c.toInt = c.toInt from rfl)
                    refine hp_ic (pc' := 93) (t := 107) (a := y.toInt) (b := z1.toInt) rfl rfl rfl rfl rfl (fun (h19 : z1.toInt < y.toInt) => ?_) (fun (h20 : ¬ (z1.toInt < y.toInt)) => ?_)
                    ·
                      refine hp_s (pc' := 109) (st' := [.int (-13)]) rfl rfl rfl ?_
                      refine hp_ri rfl rfl ?_
                      first | (exact k3 (by first | assumption | omega) (by first | assumption | omega) (by first | assumption | omega) (by first | assumption | omega) (by first | assumption | omega) (by first | assumption | omega) (by first | assumption | omega)) | (exact k4 _ _ _ (by first | assumption | omega) (by first | assumption | omega) (by first | assumption | omega) (by first | assumption | omega) (by first | assumption | omega) (by first | assumption | omega) (by first | assumption | omega) (by first | assumption | omega) (by first | assumption | omega) (by first | assumption | omega) (by first | assumption | omega) (by first | assumption | omega) (by first | assumption | omega) (by first | assumption | omega)) | (exfalso; omega)
                    ·
                      refine hp_s (pc' := 95) (st' := [.int w]) rfl rfl rfl ?_
                      refine hp_s (pc' := 96) (st' := [.ref 66, .int w]) rfl rfl rfl ?_
                      refine hp_getr (k := 51) (w := .ref 98) (pc' := 99) rfl rfl rfl rfl rfl ?_
                      refine hp_s (pc' := 100) (st' := [.int u, .ref 98, .int w]) rfl rfl rfl ?_
                      refine hp_ld (t := 100) (v := (rI p 98 u.toInt.toNat)) rfl (.inl rfl) rfl rfl rfl ?_
                      intro (g7a : 0 ≤ u.toInt) (g7b : u.toInt < 6)
                      refine hp_s (pc' := 103) (st' := [.int c, .int (rI p 98 u.toInt.toNat), .int w]) rfl rfl rfl ?_
                      refine hp_z (pc' := 104) (e := (rI p 98 u.toInt.toNat) - c) (st' := [.int w]) rfl rfl rfl ?_
                      intro z2 hz2
                      have ez2 := i_sub hz2 (show (rI p 98 u.toInt.toNat).toInt = (rI p 98 u.toInt.toNat).toInt from rfl) (show c.toInt = c.toInt from rfl)
                      refine hp_ic (pc' := 107) (t := 110) (a := w.toInt) (b := z2.toInt) rfl rfl rfl rfl rfl (fun (h21 : w.toInt ≤ z2.toInt) => ?_) (fun (h22 : ¬ (w.toInt ≤ z2.toInt)) => ?_)
                      ·
                        refine hp_s (pc' := 111) (st' := [.int 0]) rfl rfl rfl ?_
                        refine hp_s (pc' := 113) (ls' := [(6, .int 0), (0, .ref 66), (1, .int x), (2, .int y), (3, .int u), (4, .int w), (5, .int c)]) (st' := []) rfl rfl rfl ?_
                        exact lp_270a (p0 := p) (by omega) (by omega) (by omega) (by omega) (by omega) (by omega) (by omega) (by omega) (by omega) (fun p1 p2 o1 o2 => k4 _ _ _ (by omega) (by omega) (by omega) (by omega) (by omega) (by omega) (by omega) (by omega) (by omega) (by omega) (by omega) o1 o2 rfl) n 0 _ (by decide) (by have h00 : (0 : Int32).toInt = 0 := (by decide); omega) ((hOn.refl 100 _).eq (fun j => by rw [if_neg (by have h00 : (0 : Int32).toInt = 0 := (by decide); omega)]))
                      ·
                        refine hp_s (pc' := 109) (st' := [.int (-13)]) rfl rfl rfl ?_
                        refine hp_ri rfl rfl ?_
                        first | (exact k3 (by first | assumption | omega) (by first | assumption | omega) (by first | assumption | omega) (by first | assumption | omega) (by first | assumption | omega) (by first | assumption | omega) (by first | assumption | omega)) | (exact k4 _ _ _ (by first | assumption | omega) (by first | assumption | omega) (by first | assumption | omega) (by first | assumption | omega) (by first | assumption | omega) (by first | assumption | omega) (by first | assumption | omega) (by first | assumption | omega) (by first | assumption | omega) (by first | assumption | omega) (by first | assumption | omega) (by first | assumption | omega) (by first | assumption | omega) (by first | assumption | omega)) | (exfalso; omega)
            ·
              refine hp_s (pc' := 65) (st' := [.int (-12)]) rfl rfl rfl ?_
              refine hp_ri rfl rfl ?_
              first | (exact k2 (by first | assumption | omega) (by first | assumption | omega) (by first | assumption | omega) (by first | assumption | omega) (by first | assumption | omega) (by first | assumption | omega) (by first | assumption | omega)) | (exact k4 _ _ _ (by first | assumption | omega) (by first | assumption | omega) (by first | assumption | omega) (by first | assumption | omega) (by first | assumption | omega) (by first | assumption | omega) (by first | assumption | omega) (by first | assumption | omega) (by first | assumption | omega) (by first | assumption | omega) (by first | assumption | omega) (by first | assumption | omega) (by first | assumption | omega) (by first | assumption | omega)) | (exfalso; omega)
        ·
          refine hp_s (pc' := 36) (st' := [.int (-11)]) rfl rfl rfl ?_
          refine hp_ri rfl rfl ?_
          first | (exact k1 (by first | assumption | omega) (by first | assumption | omega) (by first | assumption | omega) (by first | assumption | omega) (by first | assumption | omega)) | (exact k4 _ _ _ (by first | assumption | omega) (by first | assumption | omega) (by first | assumption | omega) (by first | assumption | omega) (by first | assumption | omega) (by first | assumption | omega) (by first | assumption | omega) (by first | assumption | omega) (by first | assumption | omega) (by first | assumption | omega) (by first | assumption | omega) (by first | assumption | omega) (by first | assumption | omega) (by first | assumption | omega)) | (exfalso; omega)
    ·
      intro h23
      refine hp_id (st := [.int 0]) ?_
      refine hp_go (pc' := 14) rfl rfl rfl ?_
      refine hp_s (pc' := 15) (st' := [.int (-1)]) rfl rfl rfl ?_
      refine hp_ri rfl rfl ?_
      first | (exact k0 (by first | assumption | omega)) | (exact k4 _ _ _ (by first | assumption | omega) (by first | assumption | omega) (by first | assumption | omega) (by first | assumption | omega) (by first | assumption | omega) (by first | assumption | omega) (by first | assumption | omega) (by first | assumption | omega) (by first | assumption | omega) (by first | assumption | omega) (by first | assumption | omega) (by first | assumption | omega) (by first | assumption | omega) (by first | assumption | omega)) | (exfalso; omega)
  ·
    intro h24
    refine hp_id (st := [.int 0]) ?_
    refine hp_go (pc' := 14) rfl rfl rfl ?_
    refine hp_s (pc' := 15) (st' := [.int (-1)]) rfl rfl rfl ?_
    refine hp_ri rfl rfl ?_
    first | (exact k0 (by first | assumption | omega)) | (exact k4 _ _ _ (by first | assumption | omega) (by first | assumption | omega) (by first | assumption | omega) (by first | assumption | omega) (by first | assumption | omega) (by first | assumption | omega) (by first | assumption | omega) (by first | assumption | omega) (by first | assumption | omega) (by first | assumption | omega) (by first | assumption | omega) (by first | assumption | omega) (by first | assumption | omega) (by first | assumption | omega)) | (exfalso; omega)
