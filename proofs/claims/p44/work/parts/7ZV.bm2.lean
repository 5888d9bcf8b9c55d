/-! contracts of methods, walked -/
abbrev T_bm : List (Nat × Nat) := [(66, 15), (66, 16), (66, 17), (66, 18), (66, 19), (77, 9999), (78, 9999), (79, 9999), (80, 9999), (81, 9999), (66, 25), (84, 9999), (85, 9999), (66, 30)]
theorem M_best {ro : List (List Int32)} {n d : Nat} {p : xH} {Q : Option Value → xH → Prop} (lo : Option (List yN)) {x : Int32} {xi : Int} (hx : x.toInt = xi) (pre0 : lMo p lo) (pre1 : ∀ j, 0 ≤ (rI p 67 j).toInt ∧ (rI p 67 j).toInt < 64) (pre2 : ∀ j, -1 ≤ (rI p 71 j).toInt ∧ (rI p 71 j).toInt < 6) (pre3 : 0 ≤ (rI p 66 6).toInt) (pre4 : (rI p 66 6).toInt ≤ 7) (pre5 : hEm p) (k0 : (¬ (-1 ≤ xi ∧ xi < (rI p 66 6).toInt)) → Q (some (.int (-1))) p) (k1 : ∀ z : Int32, ∀ p2 : xH, (hNt T_bm p p2) → (xi = -1) → (z.toInt = (bS (Mal p lo) (rI p 66 6).toInt.toNat (dre p 72) (drs p 73) (drs p 74) (rI p 66 6).toInt.toNat [] (211, [])).1) → Q (some (.int z)) p2) (k2 : ∀ z : Int32, ∀ p2 : xH, (hNt T_bm p p2) → (0 ≤ xi) → (xi < (rI p 66 6).toInt) → (z.toInt = (((bS (Mal p lo) (rI p 66 6).toInt.toNat (dre p 72) (drs p 73) (drs p 74) (rI p 66 6).toInt.toNat [] (211, [])).2.reverse.getD xi.toNat 0 : Nat) : Int)) → Q (some (.int z)) p2) : hP ro n d (12, 2, 1, 1, k224) 0 (lv_args 0 [.ref 66, .int x]) [] p Q := by
  subst hx
  refine hp_id (ls := [(0, .ref 66), (1, .int x)]) ?_
  refine hp_s (pc' := 1) (st' := [.int x]) rfl rfl rfl ?_
  refine hp_s (pc' := 2) (st' := [.int (-1), .int x]) rfl rfl rfl ?_
  refine hp_ic (pc' := 5) (t := 13) (a := x.toInt) (b := (-1)) rfl rfl rfl rfl (by decide) (fun (h1 : x.toInt < (-1)) => ?_) (fun (h2 : ¬ (x.toInt < (-1))) => ?_)
  ·
    refine hp_s (pc' := 14) (st' := [.int (-1)]) rfl rfl rfl ?_
    refine hp_ri rfl rfl ?_
    exact k0 (by omega)
  ·
    refine hp_s (pc' := 6) (st' := [.int x]) rfl rfl rfl ?_
    refine hp_s (pc' := 7) (st' := [.ref 66, .int x]) rfl rfl rfl ?_
    refine hp_get (k := 6) (pc' := 10) (v := (rI p 66 6)) rfl rfl rfl rfl rfl rfl ?_
    refine hp_ic (pc' := 13) (t := 15) (a := x.toInt) (b := (rI p 66 6).toInt) rfl rfl rfl rfl rfl (fun (h3 : x.toInt < (rI p 66 6).toInt) => ?_) (fun (h4 : ¬ (x.toInt < (rI p 66 6).toInt)) => ?_)
    ·
      refine hp_s (pc' := 16) (st' := [.ref 66]) rfl rfl rfl ?_
      refine hp_cv (r := 66) (o := 12) (kd := 1) (as := []) (rest := []) (pc' := 19) rfl rfl rfl rfl rfl rfl rfl rfl rfl (fun d1 => ?_)
      refine s_asksLikes lo (by first | assumption | omega) (by first | assumption | omega) (by first | assumption | omega) (by first | assumption | omega) (by first | assumption | omega) ?_
      intro p1 h5 h6
      refine hp_id (st := []) ?_
      refine hp_s (pc' := 20) (st' := [.ref 66]) rfl rfl rfl ?_
      refine hp_s (pc' := 21) (st' := [.int (-1), .ref 66]) rfl rfl rfl ?_
      refine hp_put (k := 30) (pc' := 24) rfl rfl rfl rfl rfl ?_
      intro p2 wp2 ep2
      refine hp_s (pc' := 25) (st' := [.ref 66]) rfl rfl rfl ?_
      refine hp_s (pc' := 26) (st' := [.int 0, .ref 66]) rfl rfl rfl ?_
      refine hp_s (pc' := 27) (st' := [.int 0, .int 0, .ref 66]) rfl rfl rfl ?_
      refine hp_s (pc' := 28) (st' := [.int 0, .int 0, .int 0, .ref 66]) rfl rfl rfl ?_
      have n9 : hNt T_bm p p2 := (by rw [ep2]; exact (hNt.w (hNt.trans (hNt.refl _ _) (h5.up (by decide))) rfl))
      have f72 : ∀ j, rI p2 72 j = rI p 72 j := fun j => n9.int (r := 72) rfl
      have f73 : ∀ j, rI p2 73 j = rI p 73 j := fun j => n9.int (r := 73) rfl
      have f74 : ∀ j, rI p2 74 j = rI p 74 j := fun j => n9.int (r := 74) rfl
      have r0 : bsM p2 (rI p 66 6).toInt.toNat (Mal p lo) (dre p 72) (drs p 73) (drs p 74) [] (211, []) := ⟨⟨by rw [n9.int (r := 66) (k := 6) rfl]; omega, by omega, fun j hj => by rw [ep2, rI_o (by decide)]; exact h6 j hj, hEm_e pre5 f72 f73 f74, dre_e f72, drs_e f73, drs_e f74⟩, lOk_0, fun j hj => (by cases hj), fun i hi => absurd hi (Nat.not_lt_zero _), Or.inl ⟨rfl, by rw [ep2, rI_eq wp2 (by decide)]; decide⟩, by decide, by decide, fun g => absurd g (by decide)⟩
      have r1 : (0 : Int) = (([] : List Nat).length : Int) := rfl
      have r2 : ∀ j, j < 32 → (bI 0 j = true ↔ j ∈ ([] : List Nat)) := fun j _ => by rw [bI_0]; exact ⟨fun g => (by cases g), fun g => (by cases g)⟩
      have r3 : (0 : Int) = cL (Mal p lo) (rI p 66 6).toInt.toNat (dre p 72) (drs p 73) (drs p 74) [] := rfl
      refine hp_cv (r := 66) (o := 12) (kd := 1) (as := [.int 0, .int 0, .int 0]) (rest := []) (pc' := 31) rfl rfl rfl rfl rfl rfl rfl rfl rfl (fun d2 => ?_)
      refine s_ordersOn (rI p 66 6).toInt.toNat (Mal p lo) (dre p 72) (drs p 73) (drs p 74) [] (211, []) (ki := 0) (by decide) (ai := 0) (by decide) (ci := 0) (by decide) (by first | assumption | omega) (by first | assumption | omega) (by first | assumption | omega) (by first | assumption | omega) ?_
      intro p3 h7 h8
      obtain ⟨x1, x2, x3, x4, x5, x6, x7, x8⟩ := h8
      rw [show (rI p 66 6).toInt.toNat - ([] : List Nat).length = (rI p 66 6).toInt.toNat from Nat.sub_zero _] at x5 x8
      have hlt := bS_lt (A := Mal p lo) (bmK_es x1) (by omega)
      replace x8 := x8 hlt
      refine hp_id (st := []) ?_
      refine hp_s (pc' := 32) (st' := [.int x]) rfl rfl rfl ?_
      refine hp_s (pc' := 33) (st' := [.int (-1), .int x]) rfl rfl rfl ?_
      refine hp_ic (pc' := 36) (t := 43) (a := x.toInt) (b := (-1)) rfl rfl rfl rfl (by decide) (fun (h9 : x.toInt ≠ (-1)) => ?_) (fun (h10 : ¬ (x.toInt ≠ (-1))) => ?_)
      ·
        refine hp_s (pc' := 44) (st' := [.ref 66]) rfl rfl rfl ?_
        refine hp_getr (k := 29) (w := .ref 85) (pc' := 47) rfl rfl rfl rfl rfl ?_
        refine hp_s (pc' := 48) (st' := [.int x, .ref 85]) rfl rfl rfl ?_
        refine hp_ld (t := 100) (v := (rI p3 85 x.toInt.toNat)) rfl (.inl rfl) rfl rfl rfl ?_
        intro (g1a : 0 ≤ x.toInt) (g1b : x.toInt < 7)
        refine hp_ri rfl rfl ?_
        first | exact k1 _ _ (n9.trans (h7.up (by decide))) (by omega) (by omega) | exact k2 _ _ (n9.trans (h7.up (by decide))) (by omega) (by omega) (x8 _ (by omega))
      ·
        refine hp_s (pc' := 37) (st' := [.ref 66]) rfl rfl rfl ?_
        refine hp_get (k := 30) (pc' := 40) (v := (rI p3 66 30)) rfl rfl rfl rfl rfl rfl ?_
        refine hp_go (pc' := 49) rfl rfl rfl ?_
        refine hp_ri rfl rfl ?_
        first | exact k1 _ _ (n9.trans (h7.up (by decide))) (by omega) (by omega) | exact k2 _ _ (n9.trans (h7.up (by decide))) (by omega) (by omega) (x8 _ (by omega))
    ·
      refine hp_s (pc' := 14) (st' := [.int (-1)]) rfl rfl rfl ?_
      refine hp_ri rfl rfl ?_
      exact k0 (by omega)
