/-! contracts of methods, walked -/
theorem lp_83b {ro : List (List Int32)} {d : Nat} {Q : Option Value → xH → Prop} {p0 : xH} {SS : Nat} {i h : Int32} {N : Nat} (gN : (rI p0 1 5).toInt = (SS : Int)) (hN10 : SS ≤ 10) (hi1 : 0 ≤ i.toInt) (hi2 : i.toInt < SS) (K : ∀ m : Nat, m ≤ N → ∀ (j : Int32) (p2 : xH), (hNt [(50, 9999)] p0 p2) → (∀ m, m ≠ i.toInt.toNat → rI p2 50 m = rI p0 50 m) → (∀ c, c < 32 → (bI (rI p2 50 i.toInt.toNat) c = true ↔ c < SS ∧ (sBX p0 h.toInt) i.toInt.toNat c)) → hP ro m d (7, 4, 1, 1, k83) 68 [(3, .int j), (2, .int i), (0, .ref 49), (1, .int h)] [] p2 Q) : ∀ (n : Nat) (hn : n ≤ N) (j : Int32) (p : xH), (0 ≤ j.toInt) → (j.toInt ≤ SS) → (hNt [(50, 9999)] p0 p) → (∀ m, m ≠ i.toInt.toNat → rI p 50 m = rI p0 50 m) → (∀ c, c < 32 → (bI (rI p 50 i.toInt.toNat) c = true ↔ c < j.toInt.toNat ∧ (sBX p0 h.toInt) i.toInt.toNat c)) → hP ro n d (7, 4, 1, 1, k83) 29 [(3, .int j), (2, .int i), (0, .ref 49), (1, .int h)] [] p Q := by
  intro n
  induction n with
  | zero => intros; exact hp_0
  | succ n ih =>
    intro hn j p hj1 hj2 hN hO hR
    have eB : sBX p h.toInt = sBX p0 h.toInt := by unfold sBX; rw [show rI p 4 = rI p0 4 from funext (fun j => hN.int (r := 4) rfl), show rI p 5 = rI p0 5 from funext (fun j => hN.int (r := 5) rfl), show rI p 6 = rI p0 6 from funext (fun j => hN.int (r := 6) rfl)]
    have e15 : (rI p 1 5).toInt = (SS : Int) := by rw [hN.int (r := 1) (k := 5) rfl]; exact gN
    refine hp_s1 (pc' := 30) (st' := [.int j]) rfl rfl rfl ?_
    refine hp_s (pc' := 31) (st' := [.ref 49, .int j]) rfl rfl rfl ?_
    refine hp_getr (k := 0) (w := .ref 1) (pc' := 34) rfl rfl rfl rfl rfl ?_
    refine hp_get (k := 5) (pc' := 37) (v := (rI p 1 5)) rfl rfl rfl rfl rfl rfl ?_
    refine hp_ic (pc' := 40) (t := 68) (a := j.toInt) (b := (rI p 1 5).toInt) rfl rfl rfl rfl rfl (fun (h1 : (rI p 1 5).toInt ≤ j.toInt) => ?_) (fun (h2 : ¬ ((rI p 1 5).toInt ≤ j.toInt)) => ?_)
    ·
      exact K n (by omega) _ p hN hO (by rw [show j.toInt.toNat = SS by omega] at hR; exact hR)
    ·
      refine hp_s (pc' := 41) (st' := [.ref 49]) rfl rfl rfl ?_
      refine hp_s (pc' := 42) (st' := [.int i, .ref 49]) rfl rfl rfl ?_
      refine hp_s (pc' := 43) (st' := [.int j, .int i, .ref 49]) rfl rfl rfl ?_
      refine hp_s (pc' := 44) (st' := [.int h, .int j, .int i, .ref 49]) rfl rfl rfl ?_
      refine hp_cv (r := 49) (o := 7) (kd := 1) (as := [.int i, .int j, .int h]) (rest := []) (pc' := 47) rfl rfl rfl rfl rfl rfl rfl rfl rfl (fun d1 => ?_)
      refine s_bar (xi := i.toInt) rfl (yi := j.toInt) rfl (hi := h.toInt) rfl ?_ ?_
      ·
        intro h3
        have hbb : (sBX p0 h.toInt) i.toInt.toNat j.toInt.toNat := by rw [← eB]; exact h3
        refine hp_id (st := [.int 1]) ?_
        refine hp_go (pc' := 50) rfl rfl rfl ?_
        refine hp_s (pc' := 51) (st' := [.ref 49]) rfl rfl rfl ?_
        refine hp_getr (k := 3) (w := .ref 50) (pc' := 54) rfl rfl rfl rfl rfl ?_
        refine hp_s (pc' := 55) (st' := [.int i, .ref 50]) rfl rfl rfl ?_
        refine hp_s (pc' := 56) (st' := [.int i, .ref 50, .int i, .ref 50]) rfl rfl rfl ?_
        refine hp_ld (t := 100) (v := (rI p 50 i.toInt.toNat)) rfl (.inl rfl) rfl rfl rfl ?_
        intro (g1a : 0 ≤ i.toInt) (g1b : i.toInt < 10)
        refine hp_s (pc' := 58) (st' := [.int 1, .int (rI p 50 i.toInt.toNat), .int i, .ref 50]) rfl rfl rfl ?_
        refine hp_s (pc' := 59) (st' := [.int j, .int 1, .int (rI p 50 i.toInt.toNat), .int i, .ref 50]) rfl rfl rfl ?_
        refine hp_z (pc' := 60) (e := 1 <<< (j &&& 31)) (st' := [.int (rI p 50 i.toInt.toNat), .int i, .ref 50]) rfl rfl rfl ?_
        intro z1 hz1
        refine hp_z (pc' := 61) (e := (rI p 50 i.toInt.toNat) ||| z1) (st' := [.int i, .ref 50]) rfl rfl rfl ?_
        intro z2 hz2
        refine hp_st (t := 100) rfl (.inl rfl) rfl rfl ?_
        intro p1 wp1 (p1a : 0 ≤ i.toInt) (p1b : i.toInt < 10) ep1
        refine hp_inc (L := fun z_ => [(3, .int z_), (2, .int i), (0, .ref 49), (1, .int h)]) (pc' := 65) rfl rfl rfl (fun _ => rfl) rfl ?_
        intro z3 hz3
        have ez3 := i_add hz3 (show j.toInt = j.toInt from rfl) (show (Int32.ofInt 1).toInt = 1 from by decide)
        refine hp_go (pc' := 29) rfl rfl rfl ?_
        refine ih (by omega) z3 p1 (by omega) (by omega) (by rw [ep1]; exact hN.w rfl) (fun m hm => by rw [ep1, rI_ne (fun _ => hm)]; exact hO m hm) ?_
        rw [show z3.toInt.toNat = j.toInt.toNat + 1 by omega, ep1, rI_eq wp1 (by show _ < 10; omega)]
        exact bit_y hR hbb (by omega) (by omega) hz1 hz2
      ·
        intro h4
        have hbb : ¬ (sBX p0 h.toInt) i.toInt.toNat j.toInt.toNat := by rw [← eB]; exact h4
        refine hp_id (st := [.int 0]) ?_
        refine hp_go (pc' := 62) rfl rfl rfl ?_
        refine hp_inc (L := fun z_ => [(3, .int z_), (2, .int i), (0, .ref 49), (1, .int h)]) (pc' := 65) rfl rfl rfl (fun _ => rfl) rfl ?_
        intro z4 hz4
        have ez4 := i_add hz4 (show j.toInt = j.toInt from rfl) (show (Int32.ofInt 1).toInt = 1 from by decide)
        refine hp_go (pc' := 29) rfl rfl rfl ?_
        refine ih (by omega) z4 p (by omega) (by omega) hN hO (by rw [show z4.toInt.toNat = j.toInt.toNat + 1 by omega]; exact bit_n hR hbb)
theorem lp_83a {ro : List (List Int32)} {d : Nat} {Q : Option Value → xH → Prop} {p0 : xH} {SS : Nat} {h : Int32} {N : Nat} (gN : (rI p0 1 5).toInt = (SS : Int)) (hN10 : SS ≤ 10) (K : ∀ m : Nat, m ≤ N → ∀ (i j : Int32) (p2 : xH), (hNt [(50, 9999), (51, 9999)] p0 p2) → (∀ m, m < SS → (∀ c, c < 32 → (bI (rI p2 50 m) c = true ↔ c < SS ∧ (sBX p0 h.toInt) m c)) ∧ rI p2 51 m = 0) → hP ro m d (7, 4, 1, 1, k83) 74 [(2, .int i), (3, .int j), (0, .ref 49), (1, .int h)] [] p2 Q) : ∀ (n : Nat) (hn : n ≤ N) (i : Int32) (j : Int32) (p : xH), (0 ≤ i.toInt) → (i.toInt ≤ SS) → (hNt [(50, 9999), (51, 9999)] p0 p) → (∀ m, m < i.toInt.toNat → (∀ c, c < 32 → (bI (rI p 50 m) c = true ↔ c < SS ∧ (sBX p0 h.toInt) m c)) ∧ rI p 51 m = 0) → hP ro n d (7, 4, 1, 1, k83) 2 [(2, .int i), (3, .int j), (0, .ref 49), (1, .int h)] [] p Q := by
  intro n
  induction n with
  | zero => intros; exact hp_0
  | succ n ih =>
    intro hn i j p hi1 hi2 hN hA
    have e15 : (rI p 1 5).toInt = (SS : Int) := by rw [hN.int (r := 1) (k := 5) rfl]; exact gN
    refine hp_s1 (pc' := 3) (st' := [.int i]) rfl rfl rfl ?_
    refine hp_s (pc' := 4) (st' := [.ref 49, .int i]) rfl rfl rfl ?_
    refine hp_getr (k := 0) (w := .ref 1) (pc' := 7) rfl rfl rfl rfl rfl ?_
    refine hp_get (k := 5) (pc' := 10) (v := (rI p 1 5)) rfl rfl rfl rfl rfl rfl ?_
    refine hp_ic (pc' := 13) (t := 74) (a := i.toInt) (b := (rI p 1 5).toInt) rfl rfl rfl rfl rfl (fun (h1 : (rI p 1 5).toInt ≤ i.toInt) => ?_) (fun (h2 : ¬ ((rI p 1 5).toInt ≤ i.toInt)) => ?_)
    ·
      exact K n (by omega) _ _ p hN (fun m hm => hA m (by omega))
    ·
      refine hp_s (pc' := 14) (st' := [.ref 49]) rfl rfl rfl ?_
      refine hp_getr (k := 4) (w := .ref 51) (pc' := 17) rfl rfl rfl rfl rfl ?_
      refine hp_s (pc' := 18) (st' := [.int i, .ref 51]) rfl rfl rfl ?_
      refine hp_s (pc' := 19) (st' := [.int 0, .int i, .ref 51]) rfl rfl rfl ?_
      refine hp_st (t := 100) rfl (.inl rfl) rfl rfl ?_
      intro p1 wp1 (p1a : 0 ≤ i.toInt) (p1b : i.toInt < 10) ep1
      refine hp_s (pc' := 21) (st' := [.ref 49]) rfl rfl rfl ?_
      refine hp_getr (k := 3) (w := .ref 50) (pc' := 24) rfl rfl rfl rfl rfl ?_
      refine hp_s (pc' := 25) (st' := [.int i, .ref 50]) rfl rfl rfl ?_
      refine hp_s (pc' := 26) (st' := [.int 0, .int i, .ref 50]) rfl rfl rfl ?_
      refine hp_st (t := 100) rfl (.inl rfl) rfl rfl ?_
      intro p2 wp2 (p2a : 0 ≤ i.toInt) (p2b : i.toInt < 10) ep2
      refine hp_s (pc' := 28) (st' := [.int 0]) rfl rfl rfl ?_
      refine hp_s (pc' := 29) (ls' := [(3, .int 0), (2, .int i), (0, .ref 49), (1, .int h)]) (st' := []) rfl rfl rfl ?_
      have n1 : hNt [(50, 9999), (51, 9999)] p0 p2 := (by rw [ep2]; exact (hNt.w (by rw [ep1]; exact (hNt.w hN rfl)) rfl))
      refine lp_83b (p0 := p2) (N := n) (SS := SS) (i := i) (h := h) (by rw [n1.int (r := 1) (k := 5) rfl]; exact gN) hN10 hi1 (by omega) (fun m0 hm0 j pe j1 j2 j3 => ?_) n (Nat.le_refl _) 0 p2 (by decide) (by have h00 : (0 : Int32).toInt = 0 := (by decide); omega) (hNt.refl _ _) (fun _ _ => rfl) (fun c _ => by rw [ep2, rI_eq wp2 (by show _ < 10; omega), bI_0, i_ofz]; exact ⟨fun g => (by cases g), fun g => absurd g.1 (Nat.not_lt_zero _)⟩)
      refine hp_inc (L := fun z_ => [(2, .int z_), (3, .int j), (0, .ref 49), (1, .int h)]) (pc' := 71) rfl rfl rfl (fun _ => rfl) rfl ?_
      intro z1 hz1
      have ez1 := i_add hz1 (show i.toInt = i.toInt from rfl) (show (Int32.ofInt 1).toInt = 1 from by decide)
      refine hp_go (pc' := 2) rfl rfl rfl ?_
      have eB1 : sBX p2 h.toInt = sBX p0 h.toInt := by unfold sBX; rw [show rI p2 4 = rI p0 4 from funext (fun j => n1.int (r := 4) rfl), show rI p2 5 = rI p0 5 from funext (fun j => n1.int (r := 5) rfl), show rI p2 6 = rI p0 6 from funext (fun j => n1.int (r := 6) rfl)]
      rw [eB1] at j3
      refine hp_le hm0 (ih (by omega) z1 j pe (by omega) (by omega) (n1.trans (j1.up (by decide))) (fun m hm => ?_))
      by_cases g : m = i.toInt.toNat
      · rw [g]; exact ⟨j3, by rw [j1.int (r := 51) rfl, ep2, rI_o (by decide), ep1, rI_eq wp1 (by show _ < 10; omega)]⟩
      · rw [j2 m g, j1.int (r := 51) rfl, show rI p2 50 m = rI p 50 m by rw [ep2, rI_ne (fun _ => g), ep1, rI_o (by decide)], show rI p2 51 m = rI p 51 m by rw [ep2, rI_o (by decide), ep1, rI_ne (fun _ => g)]]; exact hA m (by omega)
theorem s_fewest {ro : List (List Int32)} {n d : Nat} {p : xH} {Q : Option Value → xH → Prop} {h : Int32} {hi : Int} (hh : h.toInt = hi) (pre0 : 0 ≤ (rI p 1 5).toInt) (pre1 : (rI p 1 5).toInt ≤ 10) (k0 : ∀ z : Int32, ∀ p2 : xH, ∀ r : Nat, (hNt T_al p p2) → (nsF (sBX p hi) (fun i => i < (rI p 1 5).toInt.toNat) r) → (z.toInt = (r : Int)) → Q (some (.int z)) p2) : hP ro n d (7, 4, 1, 1, k83) 0 (lv_args 0 [.ref 49, .int h]) [] p Q := by
  subst hh
  refine hp_id (ls := [(0, .ref 49), (1, .int h)]) ?_
  refine hp_s (pc' := 1) (st' := [.int 0]) rfl rfl rfl ?_
  refine hp_s (pc' := 2) (ls' := [(2, .int 0), (0, .ref 49), (1, .int h)]) (st' := []) rfl rfl rfl ?_
  refine hp_ls (ls' := [(2, .int 0), (3, .int 0), (0, .ref 49), (1, .int h)]) rfl rfl ⟨rfl, rfl, rfl, trivial⟩ ?_
  refine lp_83a (p0 := p) (N := n) (SS := (rI p 1 5).toInt.toNat) (h := h) (by omega) (by omega) (fun m0 hm0 i j pe j1 j2 => ?_) n (Nat.le_refl _) 0 (0 : Int32) p (by decide) (by have h00 : (0 : Int32).toInt = 0 := (by decide); omega) (hNt.refl _ _) (fun m hm => absurd hm (by rw [i_ofz]; exact Nat.not_lt_zero _))
  refine hp_s (pc' := 75) (st' := [.ref 49]) rfl rfl rfl ?_
  refine hp_s (pc' := 77) (st' := [.int 11, .ref 49]) rfl rfl rfl ?_
  refine hp_put (k := 5) (pc' := 80) rfl rfl rfl rfl rfl ?_
  intro p1 wp1 ep1
  refine hp_s (pc' := 81) (st' := [.ref 49]) rfl rfl rfl ?_
  refine hp_s (pc' := 82) (st' := [.int 0, .ref 49]) rfl rfl rfl ?_
  refine hp_s (pc' := 83) (st' := [.int 0, .int 0, .ref 49]) rfl rfl rfl ?_
  have n1 : hNt T_al p p1 := (by rw [ep1]; exact (hNt.w (j1.up (by decide)) rfl))
  have r0 : alX p1 (rI p 1 5).toInt.toNat (sBX p h.toInt) [] 11 := ⟨⟨by rw [n1.int (r := 1) (k := 5) rfl]; omega, by omega, fun i j g => sBar_c g, fun m hm c hc => by rw [ep1, rI_o (by decide)]; exact (j2 m hm).1 c hc⟩, Nat.zero_le _, fun c hc i hi => by rw [ep1, rI_o (by decide), (j2 c hc).2, bI_0]; exact ⟨fun g => (by cases g), fun g => absurd g.1 (Nat.not_lt_zero _)⟩, by rw [ep1, rI_eq wp1 (by decide)]; decide, Nat.le_refl _⟩
  have r1 : (0 : Int) = (([] : List Nat).length : Int) := rfl
  have r2 : (0 : Int) = ((0 : Nat) : Int) := rfl
  have r3 : 0 ≤ ([] : List Nat).length := Nat.le_refl _
  refine hp_cv (r := 49) (o := 7) (kd := 1) (as := [.int 0, .int 0]) (rest := []) (pc' := 86) rfl rfl rfl rfl rfl rfl rfl rfl rfl (fun d1 => ?_)
  refine s_shareOut (rI p 1 5).toInt.toNat (sBX p h.toInt) [] 0 11 (xi := 0) (by decide) (ui := 0) (by decide) (by first | assumption | omega) (by first | assumption | omega) (by first | assumption | omega) (by first | assumption | omega) ?_
  intro y1 p2 h1 h2 h3
  refine hp_id (st := []) ?_
  refine hp_s (pc' := 87) (st' := [.ref 49]) rfl rfl rfl ?_
  refine hp_get (k := 5) (pc' := 90) (v := (rI p2 49 5)) rfl rfl rfl rfl rfl rfl ?_
  refine hp_ri rfl rfl ?_
  obtain ⟨y1, y2, y3, y4, y5⟩ := h2
  obtain ⟨z1, z2, z3⟩ := h3
  exact k0 _ p2 _ (n1.trans (h1.up (by decide))) (sX_nsF (fun i j g => sBar_c g) (by omega) z2 z3) y4
theorem X_atLeast {ro : List (List Int32)} {n d : Nat} {p : xH} {Q : Option Value → xH → Prop} {h : Int32} {hi : Int} (hh : h.toInt = hi) (pre0 : 0 ≤ (rI p 1 5).toInt) (pre1 : (rI p 1 5).toInt ≤ 10) (k0 : (¬ (0 ≤ hi ∧ hi ≤ 6)) → Q (some (.int (-1))) p) (k1 : ∀ z : Int32, ∀ p2 : xH, ∀ r : Nat, (hNt T_al p p2) → (0 ≤ hi) → (hi ≤ 6) → (nsF (sBX p hi) (fun i => i < (rI p 1 5).toInt.toNat) r) → (z.toInt = (r : Int)) → Q (some (.int z)) p2) : hP ro n d (11, 2, 1, 1, k153) 0 (lv_args 0 [.ref 0, .int h]) [] p Q := by
  subst hh
  refine hp_id (ls := [(0, .ref 0), (1, .int h)]) ?_
  refine hp_s (pc' := 1) (st' := [.int h]) rfl rfl rfl ?_
  refine hp_if (pc' := 4) (t := 10) (a := h.toInt) rfl rfl rfl rfl (fun (h1 : h.toInt < 0) => ?_) (fun (h2 : ¬ (h.toInt < 0)) => ?_)
  ·
    refine hp_s (pc' := 11) (st' := [.int (-1)]) rfl rfl rfl ?_
    refine hp_ri rfl rfl ?_
    exact k0 (by omega)
  ·
    refine hp_s (pc' := 5) (st' := [.int h]) rfl rfl rfl ?_
    refine hp_s (pc' := 7) (st' := [.int 6, .int h]) rfl rfl rfl ?_
    refine hp_ic (pc' := 10) (t := 12) (a := h.toInt) (b := 6) rfl rfl rfl rfl (by decide) (fun (h3 : h.toInt ≤ 6) => ?_) (fun (h4 : ¬ (h.toInt ≤ 6)) => ?_)
    ·
      refine hp_s (pc' := 13) (st' := [.ref 0]) rfl rfl rfl ?_
      refine hp_getr (k := 10) (w := .ref 49) (pc' := 16) rfl rfl rfl rfl rfl ?_
      refine hp_s (pc' := 17) (st' := [.int h, .ref 49]) rfl rfl rfl ?_
      refine hp_cv (r := 49) (o := 7) (kd := 1) (as := [.int h]) (rest := []) (pc' := 20) rfl rfl rfl rfl rfl rfl rfl rfl rfl (fun d1 => ?_)
      refine s_fewest (hi := h.toInt) rfl (by first | assumption | omega) (by first | assumption | omega) ?_
      intro y1 p1 y2 h5 h6 h7
      refine hp_id (st := [.int y1]) ?_
      refine hp_ri rfl rfl ?_
      exact k1 _ _ _ h5 (by omega) (by omega) h6 h7
    ·
      refine hp_s (pc' := 11) (st' := [.int (-1)]) rfl rfl rfl ?_
      refine hp_ri rfl rfl ?_
      exact k0 (by omega)
