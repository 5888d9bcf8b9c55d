/-! contracts of methods, walked -/
abbrev T_rm : List (Nat × Nat) := [(42, 9999), (43, 9999), (34, 12)]
abbrev T_lx : List (Nat × Nat) := [(20, 4), (23, 9999), (24, 9999), (33, 9999), (35, 9999), (36, 9999), (37, 9999), (38, 9999), (39, 9999), (42, 9999), (43, 9999), (34, 12)]
abbrev T_pp : List (Nat × Nat) := [(66, 15), (66, 16), (66, 17), (66, 18), (66, 19), (77, 9999), (78, 9999), (79, 9999), (80, 9999), (81, 9999), (66, 25), (82, 9999), (83, 9999)]
theorem lp_32 {ro : List (List Int32)} {d : Nat} {Q : Option Value → xH → Prop} {p0 : xH} (g0 : 0 ≤ (rI p0 13 7).toInt) (g1 : (rI p0 13 7).toInt ≤ 7) (K : ∀ p2 : xH, hNt T_rm p0 p2 → (∀ j, j < (rI p0 13 7).toInt.toNat → rI p2 42 j = rI p0 36 j ∧ rI p2 43 j = rI p0 37 j) → rI p2 34 12 = rI p0 13 7 → Q none p2) : ∀ (n : Nat) (k : Int32) (p : xH), (0 ≤ k.toInt) → (k.toInt ≤ (rI p0 13 7).toInt) → (hNt [(42, 9999), (43, 9999)] p0 p) → (∀ j, j < k.toInt.toNat → rI p 42 j = rI p0 36 j ∧ rI p 43 j = rI p0 37 j) → hP ro n d (2, 2, 1, 0, k32) 2 [(1, .int k), (0, .ref 34)] [] p Q := by
  intro n
  induction n with
  | zero => intros; exact hp_0
  | succ n ih =>
    intro k p hk1 hk2 hN hr
    have t7 : (rI p 13 7).toInt = (rI p0 13 7).toInt := by rw [hN.int (r := 13) (k := 7) rfl]
    refine hp_s1 (pc' := 3) (st' := [.int k]) rfl rfl rfl ?_
    refine hp_s (pc' := 4) (st' := [.ref 34, .int k]) rfl rfl rfl ?_
    refine hp_getr (k := 0) (w := .ref 13) (pc' := 7) rfl rfl rfl rfl rfl ?_
    refine hp_get (k := 7) (pc' := 10) (v := (rI p 13 7)) rfl rfl rfl rfl rfl rfl ?_
    refine hp_ic (pc' := 13) (t := 43) (a := k.toInt) (b := (rI p 13 7).toInt) rfl rfl rfl rfl rfl (fun (h1 : (rI p 13 7).toInt ≤ k.toInt) => ?_) (fun (h2 : ¬ ((rI p 13 7).toInt ≤ k.toInt)) => ?_)
    ·
      refine hp_s (pc' := 44) (st' := [.ref 34]) rfl rfl rfl ?_
      refine hp_s (pc' := 45) (st' := [.ref 34, .ref 34]) rfl rfl rfl ?_
      refine hp_getr (k := 0) (w := .ref 13) (pc' := 48) rfl rfl rfl rfl rfl ?_
      refine hp_get (k := 7) (pc' := 51) (v := (rI p 13 7)) rfl rfl rfl rfl rfl rfl ?_
      refine hp_put (k := 12) (pc' := 54) rfl rfl rfl rfl rfl ?_
      intro p1 wp1 ep1
      refine hp_rv rfl rfl ?_
      exact K p1 (by rw [ep1]; exact (hNt.w (hN.up (by decide)) rfl)) (fun j hj => by rw [ep1, rI_o (by decide), rI_o (by decide)]; exact hr j (by omega)) (by rw [ep1, rI_eq wp1 (by decide), hN.int (r := 13) (k := 7) rfl])
    ·
      refine hp_s (pc' := 14) (st' := [.ref 34]) rfl rfl rfl ?_
      refine hp_getr (k := 10) (w := .ref 42) (pc' := 17) rfl rfl rfl rfl rfl ?_
      refine hp_s (pc' := 18) (st' := [.int k, .ref 42]) rfl rfl rfl ?_
      refine hp_s (pc' := 19) (st' := [.ref 34, .int k, .ref 42]) rfl rfl rfl ?_
      refine hp_getr (k := 3) (w := .ref 36) (pc' := 22) rfl rfl rfl rfl rfl ?_
      refine hp_s (pc' := 23) (st' := [.int k, .ref 36, .int k, .ref 42]) rfl rfl rfl ?_
      refine hp_ld (t := 100) (v := (rI p 36 k.toInt.toNat)) rfl (.inl rfl) rfl rfl rfl ?_
      intro (g1a : 0 ≤ k.toInt) (g1b : k.toInt < 7)
      refine hp_st (t := 100) rfl (.inl rfl) rfl rfl ?_
      intro p2 wp2 (p2a : 0 ≤ k.toInt) (p2b : k.toInt < 7) ep2
      refine hp_s (pc' := 26) (st' := [.ref 34]) rfl rfl rfl ?_
      refine hp_getr (k := 11) (w := .ref 43) (pc' := 29) rfl rfl rfl rfl rfl ?_
      refine hp_s (pc' := 30) (st' := [.int k, .ref 43]) rfl rfl rfl ?_
      refine hp_s (pc' := 31) (st' := [.ref 34, .int k, .ref 43]) rfl rfl rfl ?_
      refine hp_getr (k := 4) (w := .ref 37) (pc' := 34) rfl rfl rfl rfl rfl ?_
      refine hp_s (pc' := 35) (st' := [.int k, .ref 37, .int k, .ref 43]) rfl rfl rfl ?_
      refine hp_ld (t := 100) (v := (rI p 37 k.toInt.toNat)) rfl (.inl rfl) rfl rfl (by rw [ep2, rI_o (by decide)]) ?_
      intro (g2a : 0 ≤ k.toInt) (g2b : k.toInt < 7)
      refine hp_st (t := 100) rfl (.inl rfl) rfl rfl ?_
      intro p3 wp3 (p3a : 0 ≤ k.toInt) (p3b : k.toInt < 7) ep3
      refine hp_inc (L := fun z_ => [(1, .int z_), (0, .ref 34)]) (pc' := 40) rfl rfl rfl (fun _ => rfl) rfl ?_
      intro z1 hz1
      have ez1 := i_add hz1 (show k.toInt = k.toInt from rfl) (show (Int32.ofInt 1).toInt = 1 from by decide)
      refine hp_go (pc' := 2) rfl rfl rfl ?_
      have hx7 : k.toInt.toNat < 7 := by omega
      refine ih z1 p3 (by omega) (by omega) (by rw [ep3]; exact (hNt.w (by rw [ep2]; exact (hNt.w hN rfl)) rfl)) (fun j hj => ?_)
      by_cases g : j = k.toInt.toNat
      · rw [g]
        refine ⟨?_, ?_⟩
        · rw [ep3, rI_o (by decide), ep2, rI_eq wp2 hx7]; exact hN.int (r := 36) rfl
        · rw [ep3, rI_eq wp3 hx7]; exact hN.int (r := 37) rfl
      · have q := hr j (by omega)
        rw [show rI p3 42 j = rI p 42 j by rw [ep3, rI_o (by decide), ep2, rI_ne (fun _ => g)], show rI p3 43 j = rI p 43 j by rw [ep3, rI_ne (fun _ => g), ep2, rI_o (by decide)]]
        exact q
theorem s_remember {ro : List (List Int32)} {n d : Nat} {p : xH} {Q : Option Value → xH → Prop}  (pre0 : 0 ≤ (rI p 13 7).toInt) (pre1 : (rI p 13 7).toInt ≤ 7) (k0 : ∀ p2 : xH, (hNt T_rm p p2) → (∀ j, j < (rI p 13 7).toInt.toNat → rI p2 42 j = rI p 36 j ∧ rI p2 43 j = rI p 37 j) → (rI p2 34 12 = rI p 13 7) → Q none p2) : hP ro n d (2, 2, 1, 0, k32) 0 (lv_args 0 [.ref 34]) [] p Q := by
  refine hp_id (ls := [(0, .ref 34)]) ?_
  refine hp_s (pc' := 1) (st' := [.int 0]) rfl rfl rfl ?_
  refine hp_s (pc' := 2) (ls' := [(1, .int 0), (0, .ref 34)]) (st' := []) rfl rfl rfl ?_
  exact lp_32 (p0 := p) pre0 pre1 (fun p2 h1 h2 h3 => k0 p2 h1 h2 h3) n 0 p (by decide) (by have h00 : (0 : Int32).toInt = 0 := (by decide); omega) (hNt.refl _ _) (fun j hj => absurd hj (by rw [i_ofz]; exact Nat.not_lt_zero _))
theorem X_plan {ro : List (List Int32)} {n d : Nat} {p : xH} {Q : Option Value → xH → Prop} (lo : Option (List yN))  (pre0 : lXo p lo) (pre1 : ∀ j, -1 ≤ (rI p 2 j).toInt) (pre2 : 0 ≤ (rI p 13 7).toInt) (pre3 : (rI p 13 7).toInt ≤ 7) (pre4 : 0 ≤ (rI p 13 9).toInt) (pre5 : (rI p 13 9).toInt ≤ 63) (pre6 : hEr p) (k0 : ∀ z : Int32, ∀ p2 : xH, (hNt T_lx p p2) → (z = hSum (fun j => dCt (drt p 17 19 j) ((plX p (Xal p lo 0) (rI p 13 7).toInt.toNat (dN (rI p 13 7).toInt.toNat)) j)) (rI p 13 7).toInt.toNat) → (∀ j, j < (rI p 13 7).toInt.toNat → (rI p2 42 j).toInt = dFi ((plX p (Xal p lo 0) (rI p 13 7).toInt.toNat (dN (rI p 13 7).toInt.toNat)) j) ∧ (rI p2 43 j).toInt = dLa ((plX p (Xal p lo 0) (rI p 13 7).toInt.toNat (dN (rI p 13 7).toInt.toNat)) j)) → (rI p2 34 12 = rI p 13 7) → Q (some (.int z)) p2) : hP ro n d (11, 1, 1, 1, k139) 0 (lv_args 0 [.ref 0]) [] p Q := by
  refine hp_id (ls := [(0, .ref 0)]) ?_
  refine hp_s (pc' := 1) (st' := [.ref 0]) rfl rfl rfl ?_
  refine hp_getr (k := 8) (w := .ref 34) (pc' := 4) rfl rfl rfl rfl rfl ?_
  refine hp_cv (r := 34) (o := 2) (kd := 1) (as := []) (rest := []) (pc' := 7) rfl rfl rfl rfl rfl rfl rfl rfl rfl (fun d1 => ?_)
  refine s_layByNumbers lo (by first | assumption | omega) (by first | assumption | omega) (by first | assumption | omega) (by first | assumption | omega) (by first | assumption | omega) (by first | assumption | omega) (by first | assumption | omega) ?_
  intro p1 h1 h2
  refine hp_id (st := []) ?_
  refine hp_s (pc' := 8) (st' := [.ref 0]) rfl rfl rfl ?_
  refine hp_getr (k := 8) (w := .ref 34) (pc' := 11) rfl rfl rfl rfl rfl ?_
  have s0 : 0 ≤ (rI p1 13 7).toInt ∧ (rI p1 13 7).toInt ≤ 7 := by rw [h1.int (r := 13) (k := 7) rfl]; exact ⟨pre2, pre3⟩
  obtain ⟨s1, s2⟩ := s0
  refine hp_cv (r := 34) (o := 2) (kd := 1) (as := []) (rest := []) (pc' := 14) rfl rfl rfl rfl rfl rfl rfl rfl rfl (fun d2 => ?_)
  refine s_remember (by first | assumption | omega) (by first | assumption | omega) ?_
  intro p2 h3 h4 h5
  refine hp_id (st := []) ?_
  refine hp_s (pc' := 15) (st' := [.ref 0]) rfl rfl rfl ?_
  refine hp_getr (k := 8) (w := .ref 34) (pc' := 18) rfl rfl rfl rfl rfl ?_
  have n9 : hNt T_lx p p2 := hNt.trans (h1.up (by decide)) (h3.up (by decide))
  have t0 : (rI p2 13 7).toInt = ((rI p 13 7).toInt.toNat : Int) := by rw [n9.int (r := 13) (k := 7) rfl]; omega
  have t1 : (rI p 13 7).toInt.toNat ≤ 7 := by omega
  have t2 : ∀ j, j < (rI p 13 7).toInt.toNat → hDr p2 j ((plX p (Xal p lo 0) (rI p 13 7).toInt.toNat (dN (rI p 13 7).toInt.toNat)) j) (drt p 17 19 j) := fun j hj => hDr_e (fun k => h3.int (r := 35) rfl) (h3.int (r := 36) rfl) (h3.int (r := 37) rfl) (h3.int (r := 38) rfl) (h3.int (r := 39) rfl) (h2 j hj)
  have t3 : ∀ j, j < (rI p 13 7).toInt.toNat → (rI p2 42 j).toInt = dFi ((plX p (Xal p lo 0) (rI p 13 7).toInt.toNat (dN (rI p 13 7).toInt.toNat)) j) ∧ (rI p2 43 j).toInt = dLa ((plX p (Xal p lo 0) (rI p 13 7).toInt.toNat (dN (rI p 13 7).toInt.toNat)) j) := fun j hj => by
    have q := h4 j (by rw [h1.int (r := 13) (k := 7) rfl]; exact hj)
    rw [q.1, q.2]
    exact ⟨(h2 j hj).2.1, (h2 j hj).2.2.1⟩
  refine hp_cv (r := 34) (o := 2) (kd := 1) (as := []) (rest := []) (pc' := 21) rfl rfl rfl rfl rfl rfl rfl rfl rfl (fun d3 => ?_)
  refine s_waitedByAll (rI p 13 7).toInt.toNat (plX p (Xal p lo 0) (rI p 13 7).toInt.toNat (dN (rI p 13 7).toInt.toNat)) (drt p 17 19) (by first | assumption | omega) (by first | assumption | omega) (by first | assumption | omega) ?_
  intro y1 h6
  refine hp_id (st := [.int y1]) ?_
  refine hp_ri rfl rfl ?_
  exact k0 _ _ n9 h6 t3 (by rw [h5, h1.int (r := 13) (k := 7) rfl])
/-- the first, the last minute out -/
def lf (w : Int → Int) : Nat → Int × Int
  | 0 => (-2, -2)
  | m + 1 => if 0 ≤ w m then (if (lf w m).1 < 0 then (m : Int) else (lf w m).1, (m : Int)) else lf w m
theorem lf_y {w : Int → Int} {m : Nat} (h : 0 ≤ w m) : lf w (m + 1) = (if (lf w m).1 < 0 then (m : Int) else (lf w m).1, (m : Int)) := if_pos h
theorem lf_n {w : Int → Int} {m : Nat} (h : ¬ 0 ≤ w m) : lf w (m + 1) = lf w m := if_neg h
def hOl (p p2 : xH) (x : Nat) : Prop := ∀ j, j ≠ x → rI p2 82 j = rI p 82 j ∧ rI p2 83 j = rI p 83 j
theorem hOl_w {p p1 p2 : xH} {X r : Nat} {v : Int32} (h : hOl p p1 X) (e : p2 = wV p1 r X (.int v)) : hOl p p2 X := fun j hj => by
  have o : ∀ r', rI p2 r' j = rI p1 r' j := fun r' => by rw [e]; exact rI_ne (fun _ => hj)
  rw [o, o]
  exact h j hj
theorem lp_220b {ro : List (List Int32)} {d : Nat} {Q : Option Value → xH → Prop} {p0 : xH} {x : Int32} {w : Int → Int} {N : Nat} (x0 : 0 ≤ x.toInt) (x7 : x.toInt < 7) (hw : ∀ i : Nat, i < 30 → (rI p0 79 (30 * x.toInt.toNat + i)).toInt = w i) (K : ∀ m : Nat, m ≤ N → ∀ (m9 : Int32) (p2 : xH), (hNt [(82, 9999), (83, 9999)] p0 p2) → (hOl p0 p2 x.toInt.toNat) → ((rI p2 82 x.toInt.toNat).toInt = (lf w 30).1) → ((rI p2 83 x.toInt.toNat).toInt = (lf w 30).2) → hP ro m d (12, 3, 1, 1, k220) 91 [(2, .int m9), (1, .int x), (0, .ref 66)] [] p2 Q) : ∀ (n : Nat) (hn : n ≤ N) (m9 : Int32) (p : xH), (0 ≤ m9.toInt) → (m9.toInt ≤ 30) → (hNt [(82, 9999), (83, 9999)] p0 p) → (hOl p0 p x.toInt.toNat) → ((rI p 82 x.toInt.toNat).toInt = (lf w m9.toInt.toNat).1) → ((rI p 83 x.toInt.toNat).toInt = (lf w m9.toInt.toNat).2) → hP ro n d (12, 3, 1, 1, k220) 33 [(2, .int m9), (1, .int x), (0, .ref 66)] [] p Q := by
  intro n
  induction n with
  | zero => intros; exact hp_0
  | succ n ih =>
    intro hn m9 p hm1 hm3 hN hO h82 h83
    refine hp_s1 (pc' := 34) (st' := [.int m9]) rfl rfl rfl ?_
    refine hp_s (pc' := 36) (st' := [.int 30, .int m9]) rfl rfl rfl ?_
    refine hp_ic (pc' := 39) (t := 91) (a := m9.toInt) (b := 30) rfl rfl rfl rfl (by decide) (fun (h1 : 30 ≤ m9.toInt) => ?_) (fun (h2 : ¬ (30 ≤ m9.toInt)) => ?_)
    ·
      exact K n (by omega) _ p hN hO (by rw [h82, show m9.toInt.toNat = 30 by omega]) (by rw [h83, show m9.toInt.toNat = 30 by omega])
    ·
      refine hp_s (pc' := 40) (st' := [.ref 66]) rfl rfl rfl ?_
      refine hp_getr (k := 22) (w := .ref 79) (pc' := 43) rfl rfl rfl rfl rfl ?_
      refine hp_s (pc' := 45) (st' := [.int 30, .ref 79]) rfl rfl rfl ?_
      refine hp_s (pc' := 46) (st' := [.int x, .int 30, .ref 79]) rfl rfl rfl ?_
      refine hp_z (pc' := 47) (e := 30 * x) (st' := [.ref 79]) rfl rfl rfl ?_
      intro z1 hz1
      have ez1 := i_mul hz1 (show (30 : Int32).toInt = 30 from by decide) (show x.toInt = x.toInt from rfl)
      refine hp_s (pc' := 48) (st' := [.int m9, .int z1, .ref 79]) rfl rfl rfl ?_
      refine hp_z (pc' := 49) (e := z1 + m9) (st' := [.ref 79]) rfl rfl rfl ?_
      intro z2 hz2
      have ez2 := i_add hz2 (show z1.toInt = z1.toInt from rfl) (show m9.toInt = m9.toInt from rfl)
      refine hp_ld (t := 100) (v := (rI p 79 z2.toInt.toNat)) rfl (.inl rfl) rfl rfl rfl ?_
      intro (g1a : 0 ≤ z2.toInt) (g1b : z2.toInt < 210)
      have q9 : (rI p 79 z2.toInt.toNat).toInt = w m9.toInt.toNat := by rw [← hw _ (by omega), ← hN.int (r := 79) rfl]; congr 2; omega
      refine hp_if (pc' := 53) (t := 85) (a := (rI p 79 z2.toInt.toNat).toInt) rfl rfl rfl rfl (fun (h3 : (rI p 79 z2.toInt.toNat).toInt < 0) => ?_) (fun (h4 : ¬ ((rI p 79 z2.toInt.toNat).toInt < 0)) => ?_)
      ·
        refine hp_inc (L := fun z_ => [(2, .int z_), (1, .int x), (0, .ref 66)]) (pc' := 88) rfl rfl rfl (fun _ => rfl) rfl ?_
        intro z3 hz3
        have ez3 := i_add hz3 (show m9.toInt = m9.toInt from rfl) (show (Int32.ofInt 1).toInt = 1 from by decide)
        refine hp_go (pc' := 33) rfl rfl rfl ?_
        refine ih (by omega) z3 p (by omega) (by omega) hN hO ?_ ?_
        · rw [show z3.toInt.toNat = m9.toInt.toNat + 1 by omega, lf_n (by omega)]; exact h82
        · rw [show z3.toInt.toNat = m9.toInt.toNat + 1 by omega, lf_n (by omega)]; exact h83
      ·
        refine hp_s (pc' := 54) (st' := [.ref 66]) rfl rfl rfl ?_
        refine hp_getr (k := 26) (w := .ref 82) (pc' := 57) rfl rfl rfl rfl rfl ?_
        refine hp_s (pc' := 58) (st' := [.int x, .ref 82]) rfl rfl rfl ?_
        refine hp_s (pc' := 59) (st' := [.ref 66, .int x, .ref 82]) rfl rfl rfl ?_
        refine hp_getr (k := 26) (w := .ref 82) (pc' := 62) rfl rfl rfl rfl rfl ?_
        refine hp_s (pc' := 63) (st' := [.int x, .ref 82, .int x, .ref 82]) rfl rfl rfl ?_
        refine hp_ld (t := 100) (v := (rI p 82 x.toInt.toNat)) rfl (.inl rfl) rfl rfl rfl ?_
        intro (g2a : 0 ≤ x.toInt) (g2b : x.toInt < 7)
        refine hp_if (pc' := 67) (t := 71) (a := (rI p 82 x.toInt.toNat).toInt) rfl rfl rfl rfl (fun (h5 : 0 ≤ (rI p 82 x.toInt.toNat).toInt) => ?_) (fun (h6 : ¬ (0 ≤ (rI p 82 x.toInt.toNat).toInt)) => ?_)
        ·
          refine hp_s (pc' := 72) (st' := [.ref 66, .int x, .ref 82]) rfl rfl rfl ?_
          refine hp_getr (k := 26) (w := .ref 82) (pc' := 75) rfl rfl rfl rfl rfl ?_
          refine hp_s (pc' := 76) (st' := [.int x, .ref 82, .int x, .ref 82]) rfl rfl rfl ?_
          refine hp_ld (t := 100) (v := (rI p 82 x.toInt.toNat)) rfl (.inl rfl) rfl rfl rfl ?_
          intro (g3a : 0 ≤ x.toInt) (g3b : x.toInt < 7)
          refine hp_st (t := 100) rfl (.inl rfl) rfl rfl ?_
          intro p1 wp1 (p1a : 0 ≤ x.toInt) (p1b : x.toInt < 7) ep1
          refine hp_s (pc' := 79) (st' := [.ref 66]) rfl rfl rfl ?_
          refine hp_getr (k := 27) (w := .ref 83) (pc' := 82) rfl rfl rfl rfl rfl ?_
          refine hp_s (pc' := 83) (st' := [.int x, .ref 83]) rfl rfl rfl ?_
          refine hp_s (pc' := 84) (st' := [.int m9, .int x, .ref 83]) rfl rfl rfl ?_
          refine hp_st (t := 100) rfl (.inl rfl) rfl rfl ?_
          intro p2 wp2 (p2a : 0 ≤ x.toInt) (p2b : x.toInt < 7) ep2
          refine hp_inc (L := fun z_ => [(2, .int z_), (1, .int x), (0, .ref 66)]) (pc' := 88) rfl rfl rfl (fun _ => rfl) rfl ?_
          intro z4 hz4
          have ez4 := i_add hz4 (show m9.toInt = m9.toInt from rfl) (show (Int32.ofInt 1).toInt = 1 from by decide)
          refine hp_go (pc' := 33) rfl rfl rfl ?_
          have hx9 : x.toInt.toNat < 7 := by omega
          refine ih (by omega) z4 p2 (by omega) (by omega) (by rw [ep2]; exact (hNt.w (by rw [ep1]; exact (hNt.w hN rfl)) rfl)) (hOl_w (hOl_w hO ep1) ep2) ?_ ?_
          · rw [show z4.toInt.toNat = m9.toInt.toNat + 1 by omega, lf_y (by omega), ep2, rI_o (by decide), ep1, rI_eq wp1 hx9]
            show _ = if _ then _ else _
            rw [if_neg (by omega)]; exact h82
          · rw [show z4.toInt.toNat = m9.toInt.toNat + 1 by omega, lf_y (by omega), ep2, rI_eq wp2 hx9]; show m9.toInt = (m9.toInt.toNat : Int); omega
        ·
          refine hp_s (pc' := 68) (st' := [.int m9, .int x, .ref 82]) rfl rfl rfl ?_
          refine hp_go (pc' := 77) rfl rfl rfl ?_
          refine hp_st (t := 100) rfl (.inl rfl) rfl rfl ?_
          intro p3 wp3 (p3a : 0 ≤ x.toInt) (p3b : x.toInt < 7) ep3
          refine hp_s (pc' := 79) (st' := [.ref 66]) rfl rfl rfl ?_
          refine hp_getr (k := 27) (w := .ref 83) (pc' := 82) rfl rfl rfl rfl rfl ?_
          refine hp_s (pc' := 83) (st' := [.int x, .ref 83]) rfl rfl rfl ?_
          refine hp_s (pc' := 84) (st' := [.int m9, .int x, .ref 83]) rfl rfl rfl ?_
          refine hp_st (t := 100) rfl (.inl rfl) rfl rfl ?_
          intro p4 wp4 (p4a : 0 ≤ x.toInt) (p4b : x.toInt < 7) ep4
          refine hp_inc (L := fun z_ => [(2, .int z_), (1, .int x), (0, .ref 66)]) (pc' := 88) rfl rfl rfl (fun _ => rfl) rfl ?_
          intro z5 hz5
          have ez5 := i_add hz5 (show m9.toInt = m9.toInt from rfl) (show (Int32.ofInt 1).toInt = 1 from by decide)
          refine hp_go (pc' := 33) rfl rfl rfl ?_
          have hx9 : x.toInt.toNat < 7 := by omega
          refine ih (by omega) z5 p4 (by omega) (by omega) (by rw [ep4]; exact (hNt.w (by rw [ep3]; exact (hNt.w hN rfl)) rfl)) (hOl_w (hOl_w hO ep3) ep4) ?_ ?_
          · rw [show z5.toInt.toNat = m9.toInt.toNat + 1 by omega, lf_y (by omega), ep4, rI_o (by decide), ep3, rI_eq wp3 hx9]
            show m9.toInt = if _ then _ else _
            rw [if_pos (by omega)]; omega
          · rw [show z5.toInt.toNat = m9.toInt.toNat + 1 by omega, lf_y (by omega), ep4, rI_eq wp4 hx9]; show m9.toInt = (m9.toInt.toNat : Int); omega
theorem lp_220a {ro : List (List Int32)} {d : Nat} {Q : Option Value → xH → Prop} {p0 : xH} {S : Nat} {W : Nat → dS} {T : Nat → Int32} (g0 : (rI p0 66 6).toInt = (S : Int)) (hS7 : S ≤ 7) (hD : ∀ j, j < S → hDm p0 j (W j) (T j)) (K : ∀ (z : Int32) (p2 : xH), hNt [(82, 9999), (83, 9999)] p0 p2 → z = hSum (fun j => dCt (T j) (W j)) S → (∀ j, j < S → (rI p2 82 j).toInt = (lf (dw (W j)) 30).1 ∧ (rI p2 83 j).toInt = (lf (dw (W j)) 30).2) → (∀ j, S ≤ j → rI p2 82 j = rI p0 82 j ∧ rI p2 83 j = rI p0 83 j) → Q (some (.int z)) p2) : ∀ (n : Nat) (x : Int32) (v : Int32) (p : xH), (0 ≤ x.toInt) → (x.toInt ≤ S) → (hNt [(82, 9999), (83, 9999)] p0 p) → (∀ j, j < x.toInt.toNat → (rI p 82 j).toInt = (lf (dw (W j)) 30).1 ∧ (rI p 83 j).toInt = (lf (dw (W j)) 30).2) → (∀ j, x.toInt.toNat ≤ j → rI p 82 j = rI p0 82 j ∧ rI p 83 j = rI p0 83 j) → hP ro n d (12, 3, 1, 1, k220) 7 [(1, .int x), (2, .int v), (0, .ref 66)] [] p Q := by
  intro n
  induction n with
  | zero => intros; exact hp_0
  | succ n ih =>
    intro x v p hx1 hx2 hN hL hL2
    have t6 : (rI p 66 6).toInt = (S : Int) := by rw [hN.int (r := 66) (k := 6) rfl]; exact g0
    refine hp_s1 (pc' := 8) (st' := [.int x]) rfl rfl rfl ?_
    refine hp_s (pc' := 9) (st' := [.ref 66, .int x]) rfl rfl rfl ?_
    refine hp_get (k := 6) (pc' := 12) (v := (rI p 66 6)) rfl rfl rfl rfl rfl rfl ?_
    refine hp_ic (pc' := 15) (t := 97) (a := x.toInt) (b := (rI p 66 6).toInt) rfl rfl rfl rfl rfl (fun (h1 : (rI p 66 6).toInt ≤ x.toInt) => ?_) (fun (h2 : ¬ ((rI p 66 6).toInt ≤ x.toInt)) => ?_)
    ·
      refine hp_s (pc' := 98) (st' := [.ref 66]) rfl rfl rfl ?_
      have t0 : (rI p 66 6).toInt = (S : Int) := by rw [hN.int (r := 66) (k := 6) rfl]; exact g0
      have t2 : ∀ j, j < S → hDm p j (W j) (T j) := fun j hj => by
        obtain ⟨d1, d2, d3⟩ := hD j hj
        exact ⟨fun i hi => by rw [hN.int (r := 79) rfl]; exact d1 i hi, by rw [hN.int (r := 80) rfl]; exact d2, by rw [hN.int (r := 81) rfl]; exact d3⟩
      refine hp_cv (r := 66) (o := 12) (kd := 1) (as := []) (rest := []) (pc' := 101) rfl rfl rfl rfl rfl rfl rfl rfl rfl (fun d1 => ?_)
      refine s_allWaited S W T (by first | assumption | omega) (by first | assumption | omega) (by first | assumption | omega) ?_
      intro y1 h3
      refine hp_id (st := [.int y1]) ?_
      refine hp_ri rfl rfl ?_
      exact K _ p hN h3 (fun j hj => hL j (by omega)) (fun j hj => hL2 j (by omega))
    ·
      refine hp_s (pc' := 16) (st' := [.ref 66]) rfl rfl rfl ?_
      refine hp_getr (k := 26) (w := .ref 82) (pc' := 19) rfl rfl rfl rfl rfl ?_
      refine hp_s (pc' := 20) (st' := [.int x, .ref 82]) rfl rfl rfl ?_
      refine hp_s (pc' := 22) (st' := [.int (-2), .int x, .ref 82]) rfl rfl rfl ?_
      refine hp_st (t := 100) rfl (.inl rfl) rfl rfl ?_
      intro p1 wp1 (p1a : 0 ≤ x.toInt) (p1b : x.toInt < 7) ep1
      refine hp_s (pc' := 24) (st' := [.ref 66]) rfl rfl rfl ?_
      refine hp_getr (k := 27) (w := .ref 83) (pc' := 27) rfl rfl rfl rfl rfl ?_
      refine hp_s (pc' := 28) (st' := [.int x, .ref 83]) rfl rfl rfl ?_
      refine hp_s (pc' := 30) (st' := [.int (-2), .int x, .ref 83]) rfl rfl rfl ?_
      refine hp_st (t := 100) rfl (.inl rfl) rfl rfl ?_
      intro p2 wp2 (p2a : 0 ≤ x.toInt) (p2b : x.toInt < 7) ep2
      refine hp_s (pc' := 32) (st' := [.int 0]) rfl rfl rfl ?_
      refine hp_s (pc' := 33) (ls' := [(2, .int 0), (1, .int x), (0, .ref 66)]) (st' := []) rfl rfl rfl ?_
      have hx9 : x.toInt.toNat < 7 := by omega
      refine lp_220b (p0 := p2) (N := n) (x := x) (w := dw (W x.toInt.toNat)) hx1 (by omega) (fun i hi => by rw [ep2, rI_o (by decide), ep1, rI_o (by decide), hN.int (r := 79) rfl]; exact (hD x.toInt.toNat (by omega)).1 i hi) (fun m0 hm0 m9 pe j1 j2 j3 j4 => ?_) n (Nat.le_refl _) 0 p2 (by decide) (by decide) (hNt.refl _ _) (fun j _ => ⟨rfl, rfl⟩) (by rw [ep2, rI_o (by decide), ep1, rI_eq wp1 hx9, i_ofz]; exact (show (-2 : Int32).toInt = -2 from by decide)) (by rw [ep2, rI_eq wp2 hx9, i_ofz]; exact (show (-2 : Int32).toInt = -2 from by decide))
      refine hp_inc (L := fun z_ => [(1, .int z_), (2, .int m9), (0, .ref 66)]) (pc' := 94) rfl rfl rfl (fun _ => rfl) rfl ?_
      intro z1 hz1
      have ez1 := i_add hz1 (show x.toInt = x.toInt from rfl) (show (Int32.ofInt 1).toInt = 1 from by decide)
      refine hp_go (pc' := 7) rfl rfl rfl ?_
      refine hp_le hm0 (ih z1 m9 pe (by omega) (by omega) (hNt.trans (by rw [ep2]; exact (hNt.w (by rw [ep1]; exact (hNt.w hN rfl)) rfl)) j1) (fun j hj => ?_) (fun j hj => ?_))
      rotate_left
      · have g : j ≠ x.toInt.toNat := by omega
        rw [(j2 j g).1, (j2 j g).2, show rI p2 82 j = rI p 82 j by rw [ep2, rI_ne (fun _ => g), ep1, rI_ne (fun _ => g)], show rI p2 83 j = rI p 83 j by rw [ep2, rI_ne (fun _ => g), ep1, rI_ne (fun _ => g)]]
        exact hL2 j (by omega)
      by_cases g : j = x.toInt.toNat
      · rw [g]; exact ⟨j3, j4⟩
      · have q := hL j (by omega)
        rw [(j2 j g).1, (j2 j g).2, show rI p2 82 j = rI p 82 j by rw [ep2, rI_ne (fun _ => g), ep1, rI_ne (fun _ => g)], show rI p2 83 j = rI p 83 j by rw [ep2, rI_ne (fun _ => g), ep1, rI_ne (fun _ => g)]]
        exact q
theorem M_plan {ro : List (List Int32)} {n d : Nat} {p : xH} {Q : Option Value → xH → Prop} (lo : Option (List yN))  (pre0 : lMo p lo) (pre1 : ∀ j, 0 ≤ (rI p 67 j).toInt ∧ (rI p 67 j).toInt < 64) (pre2 : ∀ j, -1 ≤ (rI p 71 j).toInt ∧ (rI p 71 j).toInt < 6) (pre3 : 0 ≤ (rI p 66 6).toInt) (pre4 : (rI p 66 6).toInt ≤ 7) (pre5 : hEm p) (k0 : ∀ z : Int32, ∀ p2 : xH, (hNt T_pp p p2) → (z = hSum (fun j => dCt (drt p 72 74 j) ((plM p (Mal p lo) (rI p 66 6).toInt.toNat (dN (rI p 66 6).toInt.toNat)) j)) (rI p 66 6).toInt.toNat) → (∀ j, j < (rI p 66 6).toInt.toNat → (rI p2 82 j).toInt = (lf (dw ((plM p (Mal p lo) (rI p 66 6).toInt.toNat (dN (rI p 66 6).toInt.toNat)) j)) 30).1 ∧ (rI p2 83 j).toInt = (lf (dw ((plM p (Mal p lo) (rI p 66 6).toInt.toNat (dN (rI p 66 6).toInt.toNat)) j)) 30).2) → (∀ j, (rI p 66 6).toInt.toNat ≤ j → rI p2 82 j = rI p 82 j ∧ rI p2 83 j = rI p 83 j) → Q (some (.int z)) p2) : hP ro n d (12, 3, 1, 1, k220) 0 (lv_args 0 [.ref 66]) [] p Q := by
  refine hp_id (ls := [(0, .ref 66)]) ?_
  refine hp_s (pc' := 1) (st' := [.ref 66]) rfl rfl rfl ?_
  refine hp_s (pc' := 2) (st' := [.int (-1), .ref 66]) rfl rfl rfl ?_
  refine hp_cv (r := 66) (o := 12) (kd := 1) (as := [.int (-1)]) (rest := []) (pc' := 5) rfl rfl rfl rfl rfl rfl rfl rfl rfl (fun d1 => ?_)
  refine s_plansNow lo (by first | assumption | omega) (by first | assumption | omega) (by first | assumption | omega) (by first | assumption | omega) (by first | assumption | omega) (by first | assumption | omega) ?_
  intro p1 h1 h2
  refine hp_id (st := []) ?_
  refine hp_s (pc' := 6) (st' := [.int 0]) rfl rfl rfl ?_
  refine hp_s (pc' := 7) (ls' := [(1, .int 0), (0, .ref 66)]) (st' := []) rfl rfl rfl ?_
  refine hp_ls (ls' := [(1, .int 0), (2, .int 0), (0, .ref 66)]) rfl rfl ⟨rfl, rfl, trivial⟩ ?_
  exact lp_220a (p0 := p1) (S := (rI p 66 6).toInt.toNat) (W := (plM p (Mal p lo) (rI p 66 6).toInt.toNat (dN (rI p 66 6).toInt.toNat))) (T := drt p 72 74) (by rw [h1.int (r := 66) (k := 6) rfl]; omega) (by omega) h2 (fun z p2 u1 u2 u3 u4 => k0 z p2 (hNt.trans (h1.up (by decide)) (u1.up (by decide))) u2 u3 (fun j hj => by have q := u4 j hj; rw [h1.int (r := 82) rfl, h1.int (r := 83) rfl] at q; exact q)) n 0 0 p1 (by decide) (by have h00 : (0 : Int32).toInt = 0 := (by decide); omega) (hNt.refl _ _) (fun j hj => absurd hj (by rw [i_ofz]; exact Nat.not_lt_zero _)) (fun j _ => ⟨rfl, rfl⟩)
theorem X_led {ro : List (List Int32)} {n d : Nat} {p : xH} {Q : Option Value → xH → Prop} {x : Int32} {xi : Int} {y : Int32} {yi : Int} (hx : x.toInt = xi) (hy : y.toInt = yi)  (k0 : (¬ (0 ≤ xi ∧ xi < (rI p 13 7).toInt ∧ 0 ≤ yi ∧ yi ≤ 1)) → Q (some (.int (-1))) p) (k1 : (0 ≤ xi) → (xi < (rI p 13 7).toInt) → (0 ≤ yi ∧ yi ≤ 1) → ((rI p 34 12).toInt ≤ xi) → Q (some (.int (-5))) p) (k2 : (0 ≤ xi) → (xi < (rI p 13 7).toInt) → (0 ≤ yi ∧ yi ≤ 1) → (xi < (rI p 34 12).toInt) → ((rI p 42 xi.toNat).toInt < 0) → Q (some (.int (-2))) p) (k3 : (0 ≤ xi) → (xi < (rI p 13 7).toInt) → (yi = 0) → (xi < (rI p 34 12).toInt) → (0 ≤ (rI p 42 xi.toNat).toInt) → Q (some (.int (rI p 42 xi.toNat))) p) (k4 : (0 ≤ xi) → (xi < (rI p 13 7).toInt) → (yi = 1) → (xi < (rI p 34 12).toInt) → (0 ≤ (rI p 42 xi.toNat).toInt) → Q (some (.int (rI p 43 xi.toNat))) p) : hP ro n d (11, 3, 1, 1, k144) 0 (lv_args 0 [.ref 0, .int x, .int y]) [] p Q := by
  subst hx
  subst hy
  refine hp_id (ls := [(0, .ref 0), (1, .int x), (2, .int y)]) ?_
  refine hp_s (pc' := 1) (st' := [.ref 0]) rfl rfl rfl ?_
  refine hp_getr (k := 4) (w := .ref 13) (pc' := 4) rfl rfl rfl rfl rfl ?_
  refine hp_s (pc' := 5) (st' := [.int x, .ref 13]) rfl rfl rfl ?_
  refine hp_cv (r := 13) (o := 1) (kd := 1) (as := [.int x]) (rest := []) (pc' := 8) rfl rfl rfl rfl rfl rfl rfl rfl rfl (fun d1 => ?_)
  refine s_has (xi := x.toInt) rfl ?_ ?_
  ·
    intro h1 h2
    refine hp_id (st := [.int 1]) ?_
    refine hp_go (pc' := 11) rfl rfl rfl ?_
    refine hp_s (pc' := 12) (st' := [.int y]) rfl rfl rfl ?_
    refine hp_if (pc' := 15) (t := 20) (a := y.toInt) rfl rfl rfl rfl (fun (h3 : y.toInt < 0) => ?_) (fun (h4 : ¬ (y.toInt < 0)) => ?_)
    ·
      refine hp_s (pc' := 21) (st' := [.int (-1)]) rfl rfl rfl ?_
      refine hp_ri rfl rfl ?_
      first | (exact k0 (by first | assumption | omega | exact ⟨by omega, by omega⟩)) | (exact k3 (by first | assumption | omega | exact ⟨by omega, by omega⟩) (by first | assumption | omega | exact ⟨by omega, by omega⟩) (by first | assumption | omega | exact ⟨by omega, by omega⟩) (by first | assumption | omega | exact ⟨by omega, by omega⟩) (by first | assumption | omega | exact ⟨by omega, by omega⟩)) | (exact k4 (by first | assumption | omega | exact ⟨by omega, by omega⟩) (by first | assumption | omega | exact ⟨by omega, by omega⟩) (by first | assumption | omega | exact ⟨by omega, by omega⟩) (by first | assumption | omega | exact ⟨by omega, by omega⟩) (by first | assumption | omega | exact ⟨by omega, by omega⟩)) | (exfalso; omega)
    ·
      refine hp_s (pc' := 16) (st' := [.int y]) rfl rfl rfl ?_
      refine hp_s (pc' := 17) (st' := [.int 1, .int y]) rfl rfl rfl ?_
      refine hp_ic (pc' := 20) (t := 22) (a := y.toInt) (b := 1) rfl rfl rfl rfl (by decide) (fun (h5 : y.toInt ≤ 1) => ?_) (fun (h6 : ¬ (y.toInt ≤ 1)) => ?_)
      ·
        refine hp_s (pc' := 23) (st' := [.int x]) rfl rfl rfl ?_
        refine hp_s (pc' := 24) (st' := [.ref 0, .int x]) rfl rfl rfl ?_
        refine hp_getr (k := 8) (w := .ref 34) (pc' := 27) rfl rfl rfl rfl rfl ?_
        refine hp_get (k := 12) (pc' := 30) (v := (rI p 34 12)) rfl rfl rfl rfl rfl rfl ?_
        refine hp_ic (pc' := 33) (t := 36) (a := x.toInt) (b := (rI p 34 12).toInt) rfl rfl rfl rfl rfl (fun (h7 : x.toInt < (rI p 34 12).toInt) => ?_) (fun (h8 : ¬ (x.toInt < (rI p 34 12).toInt)) => ?_)
        ·
          refine hp_s (pc' := 37) (st' := [.ref 0]) rfl rfl rfl ?_
          refine hp_getr (k := 8) (w := .ref 34) (pc' := 40) rfl rfl rfl rfl rfl ?_
          refine hp_getr (k := 10) (w := .ref 42) (pc' := 43) rfl rfl rfl rfl rfl ?_
          refine hp_s (pc' := 44) (st' := [.int x, .ref 42]) rfl rfl rfl ?_
          refine hp_ld (t := 100) (v := (rI p 42 x.toInt.toNat)) rfl (.inl rfl) rfl rfl rfl ?_
          intro (g1a : 0 ≤ x.toInt) (g1b : x.toInt < 7)
          refine hp_if (pc' := 48) (t := 51) (a := (rI p 42 x.toInt.toNat).toInt) rfl rfl rfl rfl (fun (h9 : 0 ≤ (rI p 42 x.toInt.toNat).toInt) => ?_) (fun (h10 : ¬ (0 ≤ (rI p 42 x.toInt.toNat).toInt)) => ?_)
          ·
            refine hp_s (pc' := 52) (st' := [.int y]) rfl rfl rfl ?_
            refine hp_if (pc' := 55) (t := 67) (a := y.toInt) rfl rfl rfl rfl (fun (h11 : y.toInt ≠ 0) => ?_) (fun (h12 : ¬ (y.toInt ≠ 0)) => ?_)
            ·
              refine hp_s (pc' := 68) (st' := [.ref 0]) rfl rfl rfl ?_
              refine hp_getr (k := 8) (w := .ref 34) (pc' := 71) rfl rfl rfl rfl rfl ?_
              refine hp_getr (k := 11) (w := .ref 43) (pc' := 74) rfl rfl rfl rfl rfl ?_
              refine hp_s (pc' := 75) (st' := [.int x, .ref 43]) rfl rfl rfl ?_
              refine hp_ld (t := 100) (v := (rI p 43 x.toInt.toNat)) rfl (.inl rfl) rfl rfl rfl ?_
              intro (g2a : 0 ≤ x.toInt) (g2b : x.toInt < 7)
              refine hp_ri rfl rfl ?_
              first | (exact k0 (by first | assumption | omega | exact ⟨by omega, by omega⟩)) | (exact k1 (by first | assumption | omega | exact ⟨by omega, by omega⟩) (by first | assumption | omega | exact ⟨by omega, by omega⟩) (by first | assumption | omega | exact ⟨by omega, by omega⟩) (by first | assumption | omega | exact ⟨by omega, by omega⟩)) | (exact k2 (by first | assumption | omega | exact ⟨by omega, by omega⟩) (by first | assumption | omega | exact ⟨by omega, by omega⟩) (by first | assumption | omega | exact ⟨by omega, by omega⟩) (by first | assumption | omega | exact ⟨by omega, by omega⟩) (by first | assumption | omega | exact ⟨by omega, by omega⟩)) | (exact k3 (by first | assumption | omega | exact ⟨by omega, by omega⟩) (by first | assumption | omega | exact ⟨by omega, by omega⟩) (by first | assumption | omega | exact ⟨by omega, by omega⟩) (by first | assumption | omega | exact ⟨by omega, by omega⟩) (by first | assumption | omega | exact ⟨by omega, by omega⟩)) | (exact k4 (by first | assumption | omega | exact ⟨by omega, by omega⟩) (by first | assumption | omega | exact ⟨by omega, by omega⟩) (by first | assumption | omega | exact ⟨by omega, by omega⟩) (by first | assumption | omega | exact ⟨by omega, by omega⟩) (by first | assumption | omega | exact ⟨by omega, by omega⟩)) | (exfalso; omega)
            ·
              refine hp_s (pc' := 56) (st' := [.ref 0]) rfl rfl rfl ?_
              refine hp_getr (k := 8) (w := .ref 34) (pc' := 59) rfl rfl rfl rfl rfl ?_
              refine hp_getr (k := 10) (w := .ref 42) (pc' := 62) rfl rfl rfl rfl rfl ?_
              refine hp_s (pc' := 63) (st' := [.int x, .ref 42]) rfl rfl rfl ?_
              refine hp_ld (t := 100) (v := (rI p 42 x.toInt.toNat)) rfl (.inl rfl) rfl rfl rfl ?_
              intro (g3a : 0 ≤ x.toInt) (g3b : x.toInt < 7)
              refine hp_go (pc' := 76) rfl rfl rfl ?_
              refine hp_ri rfl rfl ?_
              first | (exact k0 (by first | assumption | omega | exact ⟨by omega, by omega⟩)) | (exact k1 (by first | assumption | omega | exact ⟨by omega, by omega⟩) (by first | assumption | omega | exact ⟨by omega, by omega⟩) (by first | assumption | omega | exact ⟨by omega, by omega⟩) (by first | assumption | omega | exact ⟨by omega, by omega⟩)) | (exact k2 (by first | assumption | omega | exact ⟨by omega, by omega⟩) (by first | assumption | omega | exact ⟨by omega, by omega⟩) (by first | assumption | omega | exact ⟨by omega, by omega⟩) (by first | assumption | omega | exact ⟨by omega, by omega⟩) (by first | assumption | omega | exact ⟨by omega, by omega⟩)) | (exact k3 (by first | assumption | omega | exact ⟨by omega, by omega⟩) (by first | assumption | omega | exact ⟨by omega, by omega⟩) (by first | assumption | omega | exact ⟨by omega, by omega⟩) (by first | assumption | omega | exact ⟨by omega, by omega⟩) (by first | assumption | omega | exact ⟨by omega, by omega⟩)) | (exact k4 (by first | assumption | omega | exact ⟨by omega, by omega⟩) (by first | assumption | omega | exact ⟨by omega, by omega⟩) (by first | assumption | omega | exact ⟨by omega, by omega⟩) (by first | assumption | omega | exact ⟨by omega, by omega⟩) (by first | assumption | omega | exact ⟨by omega, by omega⟩)) | (exfalso; omega)
          ·
            refine hp_s (pc' := 50) (st' := [.int (-2)]) rfl rfl rfl ?_
            refine hp_ri rfl rfl ?_
            first | (exact k2 (by first | assumption | omega | exact ⟨by omega, by omega⟩) (by first | assumption | omega | exact ⟨by omega, by omega⟩) (by first | assumption | omega | exact ⟨by omega, by omega⟩) (by first | assumption | omega | exact ⟨by omega, by omega⟩) (by first | assumption | omega | exact ⟨by omega, by omega⟩)) | (exact k3 (by first | assumption | omega | exact ⟨by omega, by omega⟩) (by first | assumption | omega | exact ⟨by omega, by omega⟩) (by first | assumption | omega | exact ⟨by omega, by omega⟩) (by first | assumption | omega | exact ⟨by omega, by omega⟩) (by first | assumption | omega | exact ⟨by omega, by omega⟩)) | (exact k4 (by first | assumption | omega | exact ⟨by omega, by omega⟩) (by first | assumption | omega | exact ⟨by omega, by omega⟩) (by first | assumption | omega | exact ⟨by omega, by omega⟩) (by first | assumption | omega | exact ⟨by omega, by omega⟩) (by first | assumption | omega | exact ⟨by omega, by omega⟩)) | (exfalso; omega)
        ·
          refine hp_s (pc' := 35) (st' := [.int (-5)]) rfl rfl rfl ?_
          refine hp_ri rfl rfl ?_
          first | (exact k1 (by first | assumption | omega | exact ⟨by omega, by omega⟩) (by first | assumption | omega | exact ⟨by omega, by omega⟩) (by first | assumption | omega | exact ⟨by omega, by omega⟩) (by first | assumption | omega | exact ⟨by omega, by omega⟩)) | (exact k3 (by first | assumption | omega | exact ⟨by omega, by omega⟩) (by first | assumption | omega | exact ⟨by omega, by omega⟩) (by first | assumption | omega | exact ⟨by omega, by omega⟩) (by first | assumption | omega | exact ⟨by omega, by omega⟩) (by first | assumption | omega | exact ⟨by omega, by omega⟩)) | (exact k4 (by first | assumption | omega | exact ⟨by omega, by omega⟩) (by first | assumption | omega | exact ⟨by omega, by omega⟩) (by first | assumption | omega | exact ⟨by omega, by omega⟩) (by first | assumption | omega | exact ⟨by omega, by omega⟩) (by first | assumption | omega | exact ⟨by omega, by omega⟩)) | (exfalso; omega)
      ·
        refine hp_s (pc' := 21) (st' := [.int (-1)]) rfl rfl rfl ?_
        refine hp_ri rfl rfl ?_
        first | (exact k0 (by first | assumption | omega | exact ⟨by omega, by omega⟩)) | (exact k3 (by first | assumption | omega | exact ⟨by omega, by omega⟩) (by first | assumption | omega | exact ⟨by omega, by omega⟩) (by first | assumption | omega | exact ⟨by omega, by omega⟩) (by first | assumption | omega | exact ⟨by omega, by omega⟩) (by first | assumption | omega | exact ⟨by omega, by omega⟩)) | (exact k4 (by first | assumption | omega | exact ⟨by omega, by omega⟩) (by first | assumption | omega | exact ⟨by omega, by omega⟩) (by first | assumption | omega | exact ⟨by omega, by omega⟩) (by first | assumption | omega | exact ⟨by omega, by omega⟩) (by first | assumption | omega | exact ⟨by omega, by omega⟩)) | (exfalso; omega)
  ·
    intro h13
    refine hp_id (st := [.int 0]) ?_
    refine hp_go (pc' := 20) rfl rfl rfl ?_
    refine hp_s (pc' := 21) (st' := [.int (-1)]) rfl rfl rfl ?_
    refine hp_ri rfl rfl ?_
    first | (exact k0 (by first | assumption | omega | exact ⟨by omega, by omega⟩)) | (exact k3 (by first | assumption | omega | exact ⟨by omega, by omega⟩) (by first | assumption | omega | exact ⟨by omega, by omega⟩) (by first | assumption | omega | exact ⟨by omega, by omega⟩) (by first | assumption | omega | exact ⟨by omega, by omega⟩) (by first | assumption | omega | exact ⟨by omega, by omega⟩)) | (exact k4 (by first | assumption | omega | exact ⟨by omega, by omega⟩) (by first | assumption | omega | exact ⟨by omega, by omega⟩) (by first | assumption | omega | exact ⟨by omega, by omega⟩) (by first | assumption | omega | exact ⟨by omega, by omega⟩) (by first | assumption | omega | exact ⟨by omega, by omega⟩)) | (exfalso; omega)
theorem M_led {ro : List (List Int32)} {n d : Nat} {p : xH} {Q : Option Value → xH → Prop} {x : Int32} {xi : Int} {y : Int32} {yi : Int} (hx : x.toInt = xi) (hy : y.toInt = yi) (pre0 : 0 ≤ (rI p 66 6).toInt) (k0 : (¬ (0 ≤ xi ∧ xi < (rI p 66 6).toInt ∧ 0 ≤ yi ∧ yi ≤ 1)) → Q (some (.int (-1))) p) (k1 : (0 ≤ xi) → (xi < (rI p 66 6).toInt) → (yi = 0) → Q (some (.int (rI p 82 xi.toNat))) p) (k2 : (0 ≤ xi) → (xi < (rI p 66 6).toInt) → (yi = 1) → Q (some (.int (rI p 83 xi.toNat))) p) : hP ro n d (12, 3, 1, 1, k226) 0 (lv_args 0 [.ref 66, .int x, .int y]) [] p Q := by
  subst hx
  subst hy
  refine hp_id (ls := [(0, .ref 66), (1, .int x), (2, .int y)]) ?_
  refine hp_s (pc' := 1) (st' := [.ref 66]) rfl rfl rfl ?_
  refine hp_s (pc' := 2) (st' := [.int x, .ref 66]) rfl rfl rfl ?_
  refine hp_cv (r := 66) (o := 12) (kd := 1) (as := [.int x]) (rest := []) (pc' := 5) rfl rfl rfl rfl rfl rfl rfl rfl rfl (fun d1 => ?_)
  refine s_isPerson (xi := x.toInt) rfl (by first | assumption | omega) ?_ ?_
  ·
    intro h1 h2
    refine hp_id (st := [.int 1]) ?_
    refine hp_go (pc' := 8) rfl rfl rfl ?_
    refine hp_s (pc' := 9) (st' := [.int y]) rfl rfl rfl ?_
    refine hp_i2l (pc' := 10) rfl rfl ?_
    intro z1 hz1 ez1
    refine hp_s (pc' := 11) (st' := [.long 0, .long z1]) rfl rfl rfl ?_
    refine hp_s (pc' := 12) (st' := [.long 1, .long 0, .long z1]) rfl rfl rfl ?_
    refine hp_cs (kd := 0) (as := [.long z1, .long 0, .long 1]) (rest := []) (pc' := 15) rfl rfl rfl rfl rfl rfl rfl (fun d2 => ?_)
    refine s_within (vi := y.toInt) ez1 (ai := 0) (by decide) (bi := 1) (by decide) ?_ ?_
    ·
      intro h3 h4
      refine hp_id (st := [.int 1]) ?_
      refine hp_go (pc' := 20) rfl rfl rfl ?_
      refine hp_s (pc' := 21) (st' := [.int y]) rfl rfl rfl ?_
      refine hp_if (pc' := 24) (t := 33) (a := y.toInt) rfl rfl rfl rfl (fun (h5 : y.toInt ≠ 0) => ?_) (fun (h6 : ¬ (y.toInt ≠ 0)) => ?_)
      ·
        refine hp_s (pc' := 34) (st' := [.ref 66]) rfl rfl rfl ?_
        refine hp_getr (k := 27) (w := .ref 83) (pc' := 37) rfl rfl rfl rfl rfl ?_
        refine hp_s (pc' := 38) (st' := [.int x, .ref 83]) rfl rfl rfl ?_
        refine hp_ld (t := 100) (v := (rI p 83 x.toInt.toNat)) rfl (.inl rfl) rfl rfl rfl ?_
        intro (g1a : 0 ≤ x.toInt) (g1b : x.toInt < 7)
        refine hp_ri rfl rfl ?_
        first | (exact k0 (by first | assumption | omega)) | (exact k1 (by first | assumption | omega) (by first | assumption | omega) (by first | assumption | omega)) | (exact k2 (by first | assumption | omega) (by first | assumption | omega) (by first | assumption | omega)) | (exfalso; omega)
      ·
        refine hp_s (pc' := 25) (st' := [.ref 66]) rfl rfl rfl ?_
        refine hp_getr (k := 26) (w := .ref 82) (pc' := 28) rfl rfl rfl rfl rfl ?_
        refine hp_s (pc' := 29) (st' := [.int x, .ref 82]) rfl rfl rfl ?_
        refine hp_ld (t := 100) (v := (rI p 82 x.toInt.toNat)) rfl (.inl rfl) rfl rfl rfl ?_
        intro (g2a : 0 ≤ x.toInt) (g2b : x.toInt < 7)
        refine hp_go (pc' := 39) rfl rfl rfl ?_
        refine hp_ri rfl rfl ?_
        first | (exact k0 (by first | assumption | omega)) | (exact k1 (by first | assumption | omega) (by first | assumption | omega) (by first | assumption | omega)) | (exact k2 (by first | assumption | omega) (by first | assumption | omega) (by first | assumption | omega)) | (exfalso; omega)
    ·
      intro h7
      refine hp_id (st := [.int 0]) ?_
      refine hp_go (pc' := 18) rfl rfl rfl ?_
      refine hp_s (pc' := 19) (st' := [.int (-1)]) rfl rfl rfl ?_
      refine hp_ri rfl rfl ?_
      first | (exact k0 (by first | assumption | omega)) | (exact k1 (by first | assumption | omega) (by first | assumption | omega) (by first | assumption | omega)) | (exact k2 (by first | assumption | omega) (by first | assumption | omega) (by first | assumption | omega)) | (exfalso; omega)
  ·
    intro h8
    refine hp_id (st := [.int 0]) ?_
    refine hp_go (pc' := 18) rfl rfl rfl ?_
    refine hp_s (pc' := 19) (st' := [.int (-1)]) rfl rfl rfl ?_
    refine hp_ri rfl rfl ?_
    first | (exact k0 (by first | assumption | omega)) | (exact k1 (by first | assumption | omega) (by first | assumption | omega) (by first | assumption | omega)) | (exact k2 (by first | assumption | omega) (by first | assumption | omega) (by first | assumption | omega)) | (exfalso; omega)
