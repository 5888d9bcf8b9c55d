/-! contracts of methods, walked -/
abbrev T_be : List (Nat × Nat) := [(20, 4), (23, 9999), (24, 9999), (33, 9999), (35, 9999), (36, 9999), (37, 9999), (38, 9999), (39, 9999), (40, 9999), (41, 9999), (34, 9)]
theorem s_findBest {ro : List (List Int32)} {n d : Nat} {p : xH} {Q : Option Value → xH → Prop} (lo : Option (List yN))  (pre0 : lXo p lo) (pre1 : ∀ j, -1 ≤ (rI p 2 j).toInt) (pre2 : 0 ≤ (rI p 13 7).toInt) (pre3 : (rI p 13 7).toInt ≤ 7) (pre4 : 0 ≤ (rI p 13 9).toInt) (pre5 : (rI p 13 9).toInt ≤ 63) (pre6 : hEr p) (k0 : ∀ p2 : xH, (hNt T_be p p2) → ((rI p2 34 9).toInt = (bS (Xal p lo 0) (rI p 13 7).toInt.toNat (dre p 17) (drs p 18) (drs p 19) (rI p 13 7).toInt.toNat [] (211, [])).1) → (oR p2 41 (bS (Xal p lo 0) (rI p 13 7).toInt.toNat (dre p 17) (drs p 18) (drs p 19) (rI p 13 7).toInt.toNat [] (211, [])).2 (rI p 13 7).toInt.toNat) → Q none p2) : hP ro n d (2, 1, 1, 0, k34) 0 (lv_args 0 [.ref 34]) [] p Q := by
  refine hp_id (ls := [(0, .ref 34)]) ?_
  refine hp_s (pc' := 1) (st' := [.ref 34]) rfl rfl rfl ?_
  refine hp_getr (k := 1) (w := .ref 32) (pc' := 4) rfl rfl rfl rfl rfl ?_
  refine hp_cv (r := 32) (o := 4) (kd := 1) (as := []) (rest := []) (pc' := 7) rfl rfl rfl rfl rfl rfl rfl rfl rfl (fun d1 => ?_)
  refine s_lookAround lo (by first | assumption | omega) (by first | assumption | omega) (by first | assumption | omega) (by first | assumption | omega) (by first | assumption | omega) (by first | assumption | omega) ?_
  intro p1 h1 h2
  refine hp_hw (fun w0 => ?_)
  refine hp_id (st := []) ?_
  refine hp_s (pc' := 8) (st' := [.ref 34]) rfl rfl rfl ?_
  refine hp_s (pc' := 11) (st' := [.int 211, .ref 34]) rfl rfl rfl ?_
  refine hp_put (k := 9) (pc' := 14) rfl rfl rfl rfl rfl ?_
  intro p2 wp2 ep2
  refine hp_s (pc' := 15) (st' := [.ref 34]) rfl rfl rfl ?_
  refine hp_s (pc' := 16) (st' := [.int 0, .ref 34]) rfl rfl rfl ?_
  refine hp_s (pc' := 17) (st' := [.int 0, .int 0, .ref 34]) rfl rfl rfl ?_
  refine hp_s (pc' := 18) (st' := [.int 0, .int 0, .int 0, .ref 34]) rfl rfl rfl ?_
  have n9 : hNt T_be p p2 := (by rw [ep2]; exact (hNt.w (hNt.trans (hNt.refl _ _) (h1.up (by decide))) rfl))
  have f17 : ∀ j, rI p2 17 j = rI p 17 j := fun j => n9.int (r := 17) rfl
  have f18 : ∀ j, rI p2 18 j = rI p 18 j := fun j => n9.int (r := 18) rfl
  have f19 : ∀ j, rI p2 19 j = rI p 19 j := fun j => n9.int (r := 19) rfl
  have r0 : bsX p2 (rI p 13 7).toInt.toNat (Xal p lo 0) (dre p 17) (drs p 18) (drs p 19) [] (211, []) := ⟨⟨by rw [n9.int (r := 13) (k := 7) rfl]; omega, by omega, fun j hj => by rw [ep2, rI_o (by decide)]; exact h2 j hj, hEr_e pre6 f17 f18 f19, dre_e f17, drs_e f18, drs_e f19⟩, lOk_0, fun j hj => (by cases hj), fun i hi => absurd hi (Nat.not_lt_zero _), by rw [ep2, rI_eq wp2 (by decide)]; decide, by decide, by decide, fun g => absurd g (by decide)⟩
  have r1 : (0 : Int) = (([] : List Nat).length : Int) := rfl
  have r2 : ∀ j, j < 32 → (bI 0 j = true ↔ j ∈ ([] : List Nat)) := fun j _ => by rw [bI_0]; exact ⟨fun g => (by cases g), fun g => (by cases g)⟩
  have r3 : (0 : Int) = cL (Xal p lo 0) (rI p 13 7).toInt.toNat (dre p 17) (drs p 18) (drs p 19) [] := rfl
  refine hp_cv (r := 34) (o := 2) (kd := 1) (as := [.int 0, .int 0, .int 0]) (rest := []) (pc' := 21) rfl rfl rfl rfl rfl rfl rfl rfl rfl (fun d2 => ?_)
  refine s_orderFrom (rI p 13 7).toInt.toNat (Xal p lo 0) (dre p 17) (drs p 18) (drs p 19) [] (211, []) (ki := 0) (by decide) (ai := 0) (by decide) (ci := 0) (by decide) (by first | assumption | omega) (by first | assumption | omega) (by first | assumption | omega) (by first | assumption | omega) ?_
  intro p3 h3 h4
  refine hp_id (st := []) ?_
  refine hp_rv rfl rfl ?_
  obtain ⟨x1, x2, x3, x4, x5, x6, x7, x8⟩ := h4
  rw [show (rI p 13 7).toInt.toNat - ([] : List Nat).length = (rI p 13 7).toInt.toNat from Nat.sub_zero _] at x5 x8
  exact k0 _ (n9.trans (h3.up (by decide))) x5 (x8 (bS_lt (bsK_es x1) (by omega)))
theorem X_best {ro : List (List Int32)} {n d : Nat} {p : xH} {Q : Option Value → xH → Prop} (lo : Option (List yN)) {x : Int32} {xi : Int} (hx : x.toInt = xi) (pre0 : lXo p lo) (pre1 : ∀ j, -1 ≤ (rI p 2 j).toInt) (pre2 : 0 ≤ (rI p 13 7).toInt) (pre3 : (rI p 13 7).toInt ≤ 7) (pre4 : 0 ≤ (rI p 13 9).toInt) (pre5 : (rI p 13 9).toInt ≤ 63) (pre6 : hEr p) (k0 : (¬ (-1 ≤ xi ∧ xi < (rI p 13 7).toInt)) → Q (some (.int (-1))) p) (k1 : ∀ z : Int32, ∀ p2 : xH, (hNt T_be p p2) → (xi = -1) → (z.toInt = (bS (Xal p lo 0) (rI p 13 7).toInt.toNat (dre p 17) (drs p 18) (drs p 19) (rI p 13 7).toInt.toNat [] (211, [])).1) → Q (some (.int z)) p2) (k2 : ∀ z : Int32, ∀ p2 : xH, (hNt T_be p p2) → (0 ≤ xi) → (xi < (rI p 13 7).toInt) → (z.toInt = (((bS (Xal p lo 0) (rI p 13 7).toInt.toNat (dre p 17) (drs p 18) (drs p 19) (rI p 13 7).toInt.toNat [] (211, [])).2.reverse.getD xi.toNat 0 : Nat) : Int)) → Q (some (.int z)) p2) : hP ro n d (11, 2, 1, 1, k142) 0 (lv_args 0 [.ref 0, .int x]) [] p Q := by
  subst hx
  refine hp_id (ls := [(0, .ref 0), (1, .int x)]) ?_
  refine hp_s (pc' := 1) (st' := [.int x]) rfl rfl rfl ?_
  refine hp_s (pc' := 2) (st' := [.int (-1), .int x]) rfl rfl rfl ?_
  refine hp_ic (pc' := 5) (t := 16) (a := x.toInt) (b := (-1)) rfl rfl rfl rfl (by decide) (fun (h1 : x.toInt < (-1)) => ?_) (fun (h2 : ¬ (x.toInt < (-1))) => ?_)
  ·
    refine hp_s (pc' := 17) (st' := [.int (-1)]) rfl rfl rfl ?_
    refine hp_ri rfl rfl ?_
    exact k0 (by omega)
  ·
    refine hp_s (pc' := 6) (st' := [.int x]) rfl rfl rfl ?_
    refine hp_s (pc' := 7) (st' := [.ref 0, .int x]) rfl rfl rfl ?_
    refine hp_getr (k := 4) (w := .ref 13) (pc' := 10) rfl rfl rfl rfl rfl ?_
    refine hp_get (k := 7) (pc' := 13) (v := (rI p 13 7)) rfl rfl rfl rfl rfl rfl ?_
    refine hp_ic (pc' := 16) (t := 18) (a := x.toInt) (b := (rI p 13 7).toInt) rfl rfl rfl rfl rfl (fun (h3 : x.toInt < (rI p 13 7).toInt) => ?_) (fun (h4 : ¬ (x.toInt < (rI p 13 7).toInt)) => ?_)
    ·
      refine hp_s (pc' := 19) (st' := [.ref 0]) rfl rfl rfl ?_
      refine hp_getr (k := 8) (w := .ref 34) (pc' := 22) rfl rfl rfl rfl rfl ?_
      refine hp_cv (r := 34) (o := 2) (kd := 1) (as := []) (rest := []) (pc' := 25) rfl rfl rfl rfl rfl rfl rfl rfl rfl (fun d1 => ?_)
      refine s_findBest lo (by first | assumption | omega) (by first | assumption | omega) (by first | assumption | omega) (by first | assumption | omega) (by first | assumption | omega) (by first | assumption | omega) (by first | assumption | omega) ?_
      intro p1 h5 h6 h7
      refine hp_id (st := []) ?_
      refine hp_s (pc' := 26) (st' := [.int x]) rfl rfl rfl ?_
      refine hp_if (pc' := 29) (t := 39) (a := x.toInt) rfl rfl rfl rfl (fun (h8 : 0 ≤ x.toInt) => ?_) (fun (h9 : ¬ (0 ≤ x.toInt)) => ?_)
      ·
        refine hp_s (pc' := 40) (st' := [.ref 0]) rfl rfl rfl ?_
        refine hp_getr (k := 8) (w := .ref 34) (pc' := 43) rfl rfl rfl rfl rfl ?_
        refine hp_getr (k := 8) (w := .ref 41) (pc' := 46) rfl rfl rfl rfl rfl ?_
        refine hp_s (pc' := 47) (st' := [.int x, .ref 41]) rfl rfl rfl ?_
        refine hp_ld (t := 100) (v := (rI p1 41 x.toInt.toNat)) rfl (.inl rfl) rfl rfl rfl ?_
        intro (g1a : 0 ≤ x.toInt) (g1b : x.toInt < 7)
        refine hp_ri rfl rfl ?_
        first | exact k1 _ _ h5 (by omega) h6 | exact k2 _ _ h5 (by omega) (by omega) (h7 _ (by omega))
      ·
        refine hp_s (pc' := 30) (st' := [.ref 0]) rfl rfl rfl ?_
        refine hp_getr (k := 8) (w := .ref 34) (pc' := 33) rfl rfl rfl rfl rfl ?_
        refine hp_get (k := 9) (pc' := 36) (v := (rI p1 34 9)) rfl rfl rfl rfl rfl rfl ?_
        refine hp_go (pc' := 48) rfl rfl rfl ?_
        refine hp_ri rfl rfl ?_
        first | exact k1 _ _ h5 (by omega) h6 | exact k2 _ _ h5 (by omega) (by omega) (h7 _ (by omega))
    ·
      refine hp_s (pc' := 17) (st' := [.int (-1)]) rfl rfl rfl ?_
      refine hp_ri rfl rfl ?_
      exact k0 (by omega)
