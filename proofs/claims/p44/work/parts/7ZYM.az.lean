/-! contracts of methods, walked -/
theorem or_0 {x : Int32} : x ||| 0 = x := bI_ext (fun k _ => by rw [bI_or, bI_0, Bool.or_false])
theorem nsF_10 {B : Nat → Nat → Prop} {I : Nat → Prop} {r : Nat} (h : nsF B I r) (hI : ∀ i, I i → i < 10) : r ≤ 10 := h.2 10 (nsP_id hI)
theorem tB_10 {X i : Nat} (hX : X < 1024) (h : tB X i) : i < 10 := by
  rcases Nat.lt_or_ge i 10 with g | g
  · exact g
  · have : X.testBit i = false := Nat.testBit_lt_two_pow (Nat.lt_of_lt_of_le (m := 2 ^ 10) hX (Nat.pow_le_pow_right (by decide) g))
    rw [show X.testBit i = true from h] at this
    cases this
theorem tB_N {X N i : Nat} (hX : X < 2 ^ N) (h : tB X i) : i < N := by
  rcases Nat.lt_or_ge i N with g | g
  · exact g
  · have : X.testBit i = false := Nat.testBit_lt_two_pow (Nat.lt_of_lt_of_le (m := 2 ^ N) hX (Nat.pow_le_pow_right (by decide) g))
    rw [show X.testBit i = true from h] at this
    cases this
theorem lw_z {q s z1 z2 z3 : Int32} {P X m : Nat} (hq : q.toInt = (P : Int)) (hs : s.toInt = (X : Int)) (hm : m < 32) (hX : X.testBit m = true) (h2 : bI (-s) m = true) (e1 : z1 = q &&& s) (e2 : z2 = -s) (e3 : z3 = z1 &&& z2) (h0 : z3.toInt = 0) : ¬ tB P m := fun g => by
  have q0 := bI_zero.mp (show z3 = 0 from Int32.toInt_inj.mp (by rw [h0]; decide)) m hm
  rw [e3, e1, e2, bI_and, bI_and, bI_tb hq hm, bI_tb hs hm, show P.testBit m = true from g, hX, h2] at q0
  cases q0
theorem mkB_e {p p2 : xH} {N : Nat} {B : Nat → Nat → Prop} (h : hNt [(91, 9999)] p p2) (k : mkB p N B) : mkB p2 N B := by
  obtain ⟨a, b, c⟩ := k
  exact ⟨by rw [h.int (r := 66) (k := 34) rfl]; exact a, b, fun n hn i hi => by rw [h.int (r := 90) rfl]; exact c n hn i hi⟩
abbrev lsL (p : xH) : Nat → Int := fun s => (rI p 91 s).toInt
theorem lsL_w {p p2 : xH} {X s : Nat} {v : Int32} (hw : hW p) (hX : X < 1024) (e : p2 = wV p 91 X (.int v)) : lsL p2 s = if s = X then v.toInt else lsL p s := by
  show (rI p2 91 s).toInt = _
  rw [e, rI_w hw (by show _ < 1024; exact hX)]
  by_cases g : s = X
  · rw [if_pos g, if_pos g]
  · rw [if_neg g, if_neg g]
theorem lp_242b {ro : List (List Int32)} {d : Nat} {Q : Option Value → xH → Prop} {p0 : xH} {SS : Nat} {i h b : Int32} {N : Nat} (gN : (rI p0 66 34).toInt = (SS : Int)) (hN10 : SS ≤ 10) (g89 : ∀ j, 0 ≤ (rI p0 89 j).toInt ∧ (rI p0 89 j).toInt < 64) (hi1 : 0 ≤ i.toInt) (hi2 : i.toInt < SS) (K : ∀ m : Nat, m ≤ N → ∀ (j : Int32) (p2 : xH), (hNt [(90, 9999)] p0 p2) → (∀ m, m ≠ i.toInt.toNat → rI p2 90 m = rI p0 90 m) → (∀ c, c < 32 → (bI (rI p2 90 i.toInt.toNat) c = true ↔ c < SS ∧ (i.toInt.toNat ≠ c ∧ (sBM p0 h.toInt) i.toInt.toNat c))) → hP ro m d (12, 5, 1, 1, k242) 78 [(3, .int j), (2, .int i), (4, .int b), (0, .ref 66), (1, .int h)] [] p2 Q) : ∀ (n : Nat) (hn : n ≤ N) (j : Int32) (p : xH), (0 ≤ j.toInt) → (j.toInt ≤ SS) → (hNt [(90, 9999)] p0 p) → (∀ m, m ≠ i.toInt.toNat → rI p 90 m = rI p0 90 m) → (∀ c, c < 32 → (bI (rI p 90 i.toInt.toNat) c = true ↔ c < j.toInt.toNat ∧ (i.toInt.toNat ≠ c ∧ (sBM p0 h.toInt) i.toInt.toNat c))) → hP ro n d (12, 5, 1, 1, k242) 33 [(3, .int j), (2, .int i), (4, .int b), (0, .ref 66), (1, .int h)] [] p Q := by
  intro n
  induction n with
  | zero => intros; exact hp_0
  | succ n ih =>
    intro hn j p hj1 hj2 hN hO hR
    have eB : sBM p h.toInt = sBM p0 h.toInt := sBM_e (fun j => hN.int (r := 89) rfl)
    have e34 : (rI p 66 34).toInt = (SS : Int) := by rw [hN.int (r := 66) (k := 34) rfl]; exact gN
    have h89 : ∀ j, 0 ≤ (rI p 89 j).toInt ∧ (rI p 89 j).toInt < 64 := fun j => by rw [hN.int (r := 89) rfl]; exact g89 j
    refine hp_s1 (pc' := 34) (st' := [.int j]) rfl rfl rfl ?_
    refine hp_s (pc' := 35) (st' := [.ref 66, .int j]) rfl rfl rfl ?_
    refine hp_get (k := 34) (pc' := 38) (v := (rI p 66 34)) rfl rfl rfl rfl rfl rfl ?_
    refine hp_ic (pc' := 41) (t := 78) (a := j.toInt) (b := (rI p 66 34).toInt) rfl rfl rfl rfl rfl (fun (h1 : (rI p 66 34).toInt ≤ j.toInt) => ?_) (fun (h2 : ¬ ((rI p 66 34).toInt ≤ j.toInt)) => ?_)
    ·
      exact K n (by omega) _ p hN hO (by rw [show j.toInt.toNat = SS by omega] at hR; exact hR)
    ·
      refine hp_s (pc' := 42) (st' := [.ref 66]) rfl rfl rfl ?_
      refine hp_getr (k := 36) (w := .ref 90) (pc' := 45) rfl rfl rfl rfl rfl ?_
      refine hp_s (pc' := 46) (st' := [.int i, .ref 90]) rfl rfl rfl ?_
      refine hp_s (pc' := 47) (st' := [.int i, .ref 90, .int i, .ref 90]) rfl rfl rfl ?_
      refine hp_ld (t := 100) (v := (rI p 90 i.toInt.toNat)) rfl (.inl rfl) rfl rfl rfl ?_
      intro (g1a : 0 ≤ i.toInt) (g1b : i.toInt < 10)
      refine hp_s (pc' := 49) (st' := [.int i, .int (rI p 90 i.toInt.toNat), .int i, .ref 90]) rfl rfl rfl ?_
      refine hp_s (pc' := 50) (st' := [.int j, .int i, .int (rI p 90 i.toInt.toNat), .int i, .ref 90]) rfl rfl rfl ?_
      refine hp_ic (pc' := 53) (t := 69) (a := i.toInt) (b := j.toInt) rfl rfl rfl rfl rfl (fun (h3 : i.toInt = j.toInt) => ?_) (fun (h4 : ¬ (i.toInt = j.toInt)) => ?_)
      ·
        refine hp_s (pc' := 70) (st' := [.int 0, .int (rI p 90 i.toInt.toNat), .int i, .ref 90]) rfl rfl rfl ?_
        refine hp_z (pc' := 71) (e := (rI p 90 i.toInt.toNat) ||| 0) (st' := [.int i, .ref 90]) rfl rfl rfl ?_
        intro z1 hz1
        refine hp_st (t := 100) rfl (.inl rfl) rfl rfl ?_
        intro p1 wp1 (p1a : 0 ≤ i.toInt) (p1b : i.toInt < 10) ep1
        refine hp_inc (L := fun z_ => [(3, .int z_), (2, .int i), (4, .int b), (0, .ref 66), (1, .int h)]) (pc' := 75) rfl rfl rfl (fun _ => rfl) rfl ?_
        intro z2 hz2
        have ez2 := i_add hz2 (show j.toInt = j.toInt from rfl) (show (Int32.ofInt 1).toInt = 1 from by decide)
        refine hp_go (pc' := 33) rfl rfl rfl ?_
        refine ih (by omega) z2 p1 (by omega) (by omega) (by rw [ep1]; exact hN.w rfl) (fun m hm => by rw [ep1, rI_ne (fun _ => hm)]; exact hO m hm) ?_
        rw [show z2.toInt.toNat = j.toInt.toNat + 1 by omega, ep1, rI_eq wp1 (by show _ < 10; omega)]
        rw [hz1, or_0]
        exact bit_n hR (fun g => g.1 (by omega))
      ·
        refine hp_s (pc' := 54) (st' := [.ref 66, .int (rI p 90 i.toInt.toNat), .int i, .ref 90]) rfl rfl rfl ?_
        refine hp_s (pc' := 55) (st' := [.int i, .ref 66, .int (rI p 90 i.toInt.toNat), .int i, .ref 90]) rfl rfl rfl ?_
        refine hp_s (pc' := 56) (st' := [.int j, .int i, .ref 66, .int (rI p 90 i.toInt.toNat), .int i, .ref 90]) rfl rfl rfl ?_
        refine hp_s (pc' := 57) (st' := [.int h, .int j, .int i, .ref 66, .int (rI p 90 i.toInt.toNat), .int i, .ref 90]) rfl rfl rfl ?_
        refine hp_cv (r := 66) (o := 12) (kd := 1) (as := [.int i, .int j, .int h]) (rest := [.int (rI p 90 i.toInt.toNat), .int i, .ref 90]) (pc' := 60) rfl rfl rfl rfl rfl rfl rfl rfl rfl (fun d1 => ?_)
        refine s_doBar (xi := i.toInt) rfl (yi := j.toInt) rfl (hi := h.toInt) rfl (by first | assumption | omega) (by first | assumption | omega) (by first | assumption | omega) (by first | assumption | omega) (by first | assumption | omega) ?_ ?_
        ·
          intro h5
          have hbb : (sBM p0 h.toInt) i.toInt.toNat j.toInt.toNat := by rw [← eB]; exact h5
          refine hp_id (st := [.int 1, .int (rI p 90 i.toInt.toNat), .int i, .ref 90]) ?_
          refine hp_go (pc' := 63) rfl rfl rfl ?_
          refine hp_s (pc' := 64) (st' := [.int 1, .int (rI p 90 i.toInt.toNat), .int i, .ref 90]) rfl rfl rfl ?_
          refine hp_s (pc' := 65) (st' := [.int j, .int 1, .int (rI p 90 i.toInt.toNat), .int i, .ref 90]) rfl rfl rfl ?_
          refine hp_z (pc' := 66) (e := 1 <<< (j &&& 31)) (st' := [.int (rI p 90 i.toInt.toNat), .int i, .ref 90]) rfl rfl rfl ?_
          intro z3 hz3
          refine hp_go (pc' := 70) rfl rfl rfl ?_
          refine hp_z (pc' := 71) (e := (rI p 90 i.toInt.toNat) ||| z3) (st' := [.int i, .ref 90]) rfl rfl rfl ?_
          intro z4 hz4
          refine hp_st (t := 100) rfl (.inl rfl) rfl rfl ?_
          intro p2 wp2 (p2a : 0 ≤ i.toInt) (p2b : i.toInt < 10) ep2
          refine hp_inc (L := fun z_ => [(3, .int z_), (2, .int i), (4, .int b), (0, .ref 66), (1, .int h)]) (pc' := 75) rfl rfl rfl (fun _ => rfl) rfl ?_
          intro z5 hz5
          have ez5 := i_add hz5 (show j.toInt = j.toInt from rfl) (show (Int32.ofInt 1).toInt = 1 from by decide)
          refine hp_go (pc' := 33) rfl rfl rfl ?_
          refine ih (by omega) z5 p2 (by omega) (by omega) (by rw [ep2]; exact hN.w rfl) (fun m hm => by rw [ep2, rI_ne (fun _ => hm)]; exact hO m hm) ?_
          rw [show z5.toInt.toNat = j.toInt.toNat + 1 by omega, ep2, rI_eq wp2 (by show _ < 10; omega)]
          exact bit_y hR ⟨by omega, hbb⟩ (by omega) (by omega) hz3 hz4
        ·
          intro h6
          have hbb : ¬ (sBM p0 h.toInt) i.toInt.toNat j.toInt.toNat := by rw [← eB]; exact h6
          refine hp_id (st := [.int 0, .int (rI p 90 i.toInt.toNat), .int i, .ref 90]) ?_
          refine hp_go (pc' := 69) rfl rfl rfl ?_
          refine hp_s (pc' := 70) (st' := [.int 0, .int (rI p 90 i.toInt.toNat), .int i, .ref 90]) rfl rfl rfl ?_
          refine hp_z (pc' := 71) (e := (rI p 90 i.toInt.toNat) ||| 0) (st' := [.int i, .ref 90]) rfl rfl rfl ?_
          intro z6 hz6
          refine hp_st (t := 100) rfl (.inl rfl) rfl rfl ?_
          intro p3 wp3 (p3a : 0 ≤ i.toInt) (p3b : i.toInt < 10) ep3
          refine hp_inc (L := fun z_ => [(3, .int z_), (2, .int i), (4, .int b), (0, .ref 66), (1, .int h)]) (pc' := 75) rfl rfl rfl (fun _ => rfl) rfl ?_
          intro z7 hz7
          have ez7 := i_add hz7 (show j.toInt = j.toInt from rfl) (show (Int32.ofInt 1).toInt = 1 from by decide)
          refine hp_go (pc' := 33) rfl rfl rfl ?_
          refine ih (by omega) z7 p3 (by omega) (by omega) (by rw [ep3]; exact hN.w rfl) (fun m hm => by rw [ep3, rI_ne (fun _ => hm)]; exact hO m hm) ?_
          rw [show z7.toInt.toNat = j.toInt.toNat + 1 by omega, ep3, rI_eq wp3 (by show _ < 10; omega)]
          rw [hz6, or_0]
          exact bit_n hR (fun g => hbb g.2)
theorem lp_242a {ro : List (List Int32)} {d : Nat} {Q : Option Value → xH → Prop} {p0 : xH} {SS : Nat} {h : Int32} {N : Nat} (gN : (rI p0 66 34).toInt = (SS : Int)) (hN10 : SS ≤ 10) (g89 : ∀ j, 0 ≤ (rI p0 89 j).toInt ∧ (rI p0 89 j).toInt < 64) (K : ∀ m : Nat, m ≤ N → ∀ (i j b : Int32) (p2 : xH), (hNt [(90, 9999)] p0 p2) → (∀ m, m < SS → (∀ c, c < 32 → (bI (rI p2 90 m) c = true ↔ c < SS ∧ (m ≠ c ∧ (sBM p0 h.toInt) m c)))) → hP ro m d (12, 5, 1, 1, k242) 84 [(2, .int i), (3, .int j), (4, .int b), (0, .ref 66), (1, .int h)] [] p2 Q) : ∀ (n : Nat) (hn : n ≤ N) (i : Int32) (j : Int32) (b : Int32) (p : xH), (0 ≤ i.toInt) → (i.toInt ≤ SS) → (hNt [(90, 9999)] p0 p) → (∀ m, m < i.toInt.toNat → (∀ c, c < 32 → (bI (rI p 90 m) c = true ↔ c < SS ∧ (m ≠ c ∧ (sBM p0 h.toInt) m c)))) → hP ro n d (12, 5, 1, 1, k242) 16 [(2, .int i), (3, .int j), (4, .int b), (0, .ref 66), (1, .int h)] [] p Q := by
  intro n
  induction n with
  | zero => intros; exact hp_0
  | succ n ih =>
    intro hn i j b p hi1 hi2 hN hA
    have e34 : (rI p 66 34).toInt = (SS : Int) := by rw [hN.int (r := 66) (k := 34) rfl]; exact gN
    have h89 : ∀ j, 0 ≤ (rI p 89 j).toInt ∧ (rI p 89 j).toInt < 64 := fun j => by rw [hN.int (r := 89) rfl]; exact g89 j
    refine hp_s1 (pc' := 17) (st' := [.int i]) rfl rfl rfl ?_
    refine hp_s (pc' := 18) (st' := [.ref 66, .int i]) rfl rfl rfl ?_
    refine hp_get (k := 34) (pc' := 21) (v := (rI p 66 34)) rfl rfl rfl rfl rfl rfl ?_
    refine hp_ic (pc' := 24) (t := 84) (a := i.toInt) (b := (rI p 66 34).toInt) rfl rfl rfl rfl rfl (fun (h1 : (rI p 66 34).toInt ≤ i.toInt) => ?_) (fun (h2 : ¬ ((rI p 66 34).toInt ≤ i.toInt)) => ?_)
    ·
      exact K n (by omega) _ _ _ p hN (fun m hm => hA m (by omega))
    ·
      refine hp_s (pc' := 25) (st' := [.ref 66]) rfl rfl rfl ?_
      refine hp_getr (k := 36) (w := .ref 90) (pc' := 28) rfl rfl rfl rfl rfl ?_
      refine hp_s (pc' := 29) (st' := [.int i, .ref 90]) rfl rfl rfl ?_
      refine hp_s (pc' := 30) (st' := [.int 0, .int i, .ref 90]) rfl rfl rfl ?_
      refine hp_st (t := 100) rfl (.inl rfl) rfl rfl ?_
      intro p1 wp1 (p1a : 0 ≤ i.toInt) (p1b : i.toInt < 10) ep1
      refine hp_s (pc' := 32) (st' := [.int 0]) rfl rfl rfl ?_
      refine hp_s (pc' := 33) (ls' := [(3, .int 0), (2, .int i), (4, .int b), (0, .ref 66), (1, .int h)]) (st' := []) rfl rfl rfl ?_
      have n1 : hNt [(90, 9999)] p0 p1 := (by rw [ep1]; exact (hNt.w hN rfl))
      refine lp_242b (p0 := p1) (N := n) (SS := SS) (i := i) (h := h) (by rw [n1.int (r := 66) (k := 34) rfl]; exact gN) hN10 (fun j => by rw [n1.int (r := 89) rfl]; exact g89 j) hi1 (by omega) (fun m0 hm0 j pe j1 j2 j3 => ?_) n (Nat.le_refl _) 0 p1 (by decide) (by have h00 : (0 : Int32).toInt = 0 := (by decide); omega) (hNt.refl _ _) (fun _ _ => rfl) (fun c _ => by rw [ep1, rI_eq wp1 (by show _ < 10; omega), bI_0, i_ofz]; exact ⟨fun g => (by cases g), fun g => absurd g.1 (Nat.not_lt_zero _)⟩)
      refine hp_inc (L := fun z_ => [(2, .int z_), (3, .int j), (4, .int b), (0, .ref 66), (1, .int h)]) (pc' := 81) rfl rfl rfl (fun _ => rfl) rfl ?_
      intro z1 hz1
      have ez1 := i_add hz1 (show i.toInt = i.toInt from rfl) (show (Int32.ofInt 1).toInt = 1 from by decide)
      refine hp_go (pc' := 16) rfl rfl rfl ?_
      rw [show sBM p1 h.toInt = sBM p0 h.toInt from sBM_e (fun j => n1.int (r := 89) rfl)] at j3
      refine hp_le hm0 (ih (by omega) z1 j b pe (by omega) (by omega) (n1.trans j1) (fun m hm => ?_))
      by_cases g : m = i.toInt.toNat
      · rw [g]; exact j3
      · rw [j2 m g, ep1, rI_ne (fun _ => g)]; exact hA m (by omega)
theorem lp_242d {ro : List (List Int32)} {d : Nat} {Q : Option Value → xH → Prop} {p0 : xH} {N9 : Nat} {B : Nat → Nat → Prop} {X m : Nat} {s h : Int32} {N : Nat} (hN10 : N9 ≤ 10) (hs : s.toInt = (X : Int)) (hXN : X < 2 ^ N9) (hX10 : X < 1024) (hX0 : 0 < X) (hm1 : m < 32) (hm2 : X.testBit m = true) (hm3 : bI (-s) m = true) (K : ∀ m : Nat, m ≤ N → ∀ (q b : Int32) (p2 : xH), (hNt [(91, 9999)] p0 p2) → (lsT B (lsL p2) (X + 1)) → hP ro m d (12, 5, 1, 1, k242) 203 [(3, .int q), (4, .int b), (2, .int s), (0, .ref 66), (1, .int h)] [] p2 Q) : ∀ (n : Nat) (hn : n ≤ N) (q : Int32) (b : Int32) (P : Nat) (p : xH), (0 ≤ q.toInt) → (q.toInt = (P : Int)) → (P &&& X = P) → (hNt [(91, 9999)] p0 p) → (mkB p N9 B) → (lsI B (lsL p) X m P) → hP ro n d (12, 5, 1, 1, k242) 113 [(3, .int q), (4, .int b), (2, .int s), (0, .ref 66), (1, .int h)] [] p Q := by
  intro n
  induction n with
  | zero => intros; exact hp_0
  | succ n ih =>
    intro hn q b P p hq0 hq hP hN hK hI
    refine hp_s1 (pc' := 114) (st' := [.int q]) rfl rfl rfl ?_
    refine hp_if (pc' := 117) (t := 203) (a := q.toInt) rfl rfl rfl rfl (fun (h1 : q.toInt ≤ 0) => ?_) (fun (h2 : ¬ (q.toInt ≤ 0)) => ?_)
    ·
      exact K n (by omega) _ _ p hN (lsI_e hX10 hm2 rfl (by rw [show P = 0 by omega] at hI; exact hI))
    ·
      refine hp_s (pc' := 118) (st' := [.int q]) rfl rfl rfl ?_
      refine hp_s (pc' := 119) (st' := [.int s, .int q]) rfl rfl rfl ?_
      refine hp_z (pc' := 120) (e := q &&& s) (st' := []) rfl rfl rfl ?_
      intro z1 hz1
      refine hp_s (pc' := 121) (st' := [.int s, .int z1]) rfl rfl rfl ?_
      refine hp_z (pc' := 122) (e := -s) (st' := [.int z1]) rfl rfl rfl ?_
      intro z2 hz2
      have ez2 := i_neg hz2 (show s.toInt = s.toInt from rfl)
      refine hp_z (pc' := 123) (e := z1 &&& z2) (st' := []) rfl rfl rfl ?_
      intro z3 hz3
      refine hp_if (pc' := 126) (t := 151) (a := z3.toInt) rfl rfl rfl rfl (fun (h3 : z3.toInt = 0) => ?_) (fun (h4 : ¬ (z3.toInt = 0)) => ?_)
      ·
        refine hp_s (pc' := 152) (st' := [.int 0]) rfl rfl rfl ?_
        have hnm : ¬ tB P m := lw_z hq hs hm1 hm2 hm3 hz1 hz2 hz3 (by omega)
        refine hp_s (pc' := 154) (ls' := [(4, .int 0), (3, .int q), (2, .int s), (0, .ref 66), (1, .int h)]) (st' := []) rfl rfl rfl ?_
        refine hp_s (pc' := 155) (st' := [.ref 66]) rfl rfl rfl ?_
        refine hp_getr (k := 37) (w := .ref 91) (pc' := 158) rfl rfl rfl rfl rfl ?_
        refine hp_s (pc' := 159) (st' := [.int s, .ref 91]) rfl rfl rfl ?_
        refine hp_s (pc' := 161) (st' := [.int 0, .int s, .ref 91]) rfl rfl rfl ?_
        refine hp_go (pc' := 187) rfl rfl rfl ?_
        refine hp_s (pc' := 188) (st' := [.ref 66, .int s, .ref 91]) rfl rfl rfl ?_
        refine hp_getr (k := 37) (w := .ref 91) (pc' := 191) rfl rfl rfl rfl rfl ?_
        refine hp_s (pc' := 192) (st' := [.int s, .ref 91, .int s, .ref 91]) rfl rfl rfl ?_
        refine hp_ld (t := 100) (v := (rI p 91 s.toInt.toNat)) rfl (.inl rfl) rfl rfl rfl ?_
        intro (g1a : 0 ≤ s.toInt) (g1b : s.toInt < 1024)
        refine hp_st (t := 100) rfl (.inl rfl) rfl rfl ?_
        intro p1 wp1 (p1a : 0 ≤ s.toInt) (p1b : s.toInt < 1024) ep1
        refine hp_s (pc' := 195) (st' := [.int q]) rfl rfl rfl ?_
        refine hp_s (pc' := 196) (st' := [.int 1, .int q]) rfl rfl rfl ?_
        refine hp_z (pc' := 197) (e := q - 1) (st' := []) rfl rfl rfl ?_
        intro z4 hz4
        have ez4 := i_sub hz4 (show q.toInt = q.toInt from rfl) (show (1 : Int32).toInt = 1 from by decide)
        refine hp_s (pc' := 198) (st' := [.int s, .int z4]) rfl rfl rfl ?_
        refine hp_z (pc' := 199) (e := z4 &&& s) (st' := []) rfl rfl rfl ?_
        intro z5 hz5
        refine hp_s (pc' := 200) (ls' := [(3, .int z5), (4, .int 0), (2, .int s), (0, .ref 66), (1, .int h)]) (st' := []) rfl rfl rfl ?_
        refine hp_go (pc' := 113) rfl rfl rfl ?_
        have hq2 : z5.toInt = (((P - 1) &&& X : Nat) : Int) := by rw [hz5]; exact iN_and (by omega) hs
        have hP2 : ((P - 1) &&& X) &&& X = (P - 1) &&& X := Nat.eq_of_testBit_eq (fun i => by rw [Nat.testBit_and, Nat.testBit_and]; cases (P - 1).testBit i <;> cases X.testBit i <;> rfl)
        have eX : s.toInt.toNat = X := by omega
        rw [eX] at ep1
        have n1 : hNt [(91, 9999)] p0 p1 := by rw [ep1]; exact hN.w rfl
        have eL : ∀ t, t ≤ X → lsL p1 t = lsL p t := fun t _ => by
          rw [lsL_w wp1 hX10 ep1]
          by_cases g : t = X
          · rw [if_pos g, g]
          · rw [if_neg g]
        refine ih (by omega) z5 (0 : Int32) ((P - 1) &&& X) p1 (by omega) hq2 hP2 n1 (mkB_e (by rw [ep1]; exact (hNt.refl _ _).w rfl) hK) (lsI_k hI eL hP rfl (fun u1 u2 r0 u3 => ?_))
        exact absurd u1 hnm
      ·
        refine hp_s (pc' := 127) (st' := [.ref 66]) rfl rfl rfl ?_
        refine hp_getr (k := 37) (w := .ref 91) (pc' := 130) rfl rfl rfl rfl rfl ?_
        refine hp_s (pc' := 131) (st' := [.int s, .ref 91]) rfl rfl rfl ?_
        refine hp_s (pc' := 132) (st' := [.int q, .int s, .ref 91]) rfl rfl rfl ?_
        refine hp_s (pc' := 133) (st' := [.int (-1), .int q, .int s, .ref 91]) rfl rfl rfl ?_
        refine hp_z (pc' := 134) (e := q ^^^ (-1)) (st' := [.int s, .ref 91]) rfl rfl rfl ?_
        intro z6 hz6
        refine hp_z (pc' := 135) (e := s &&& z6) (st' := [.ref 91]) rfl rfl rfl ?_
        intro z7 hz7
        obtain ⟨l1, l2, l3⟩ := iN_less (z := z7) hs hq (by rw [hz7, hz6])
        have l4 := less_lt l2 hP (by omega)
        obtain ⟨r, r1, r2⟩ := hI.1 _ l4
        have r2 : (rI p 91 z7.toInt.toNat).toInt = (r : Int) := r2
        have r3 : nsF B (fun i => tB X i ∧ ¬ tB P i) r := nsF_e (less_iff l2) (fun _ _ _ _ => Iff.rfl) r1
        have r4 := nsF_10 r3 (fun i hi => tB_10 hX10 hi.1)
        have l5 : z7.toInt.toNat < 1024 := by omega
        refine hp_ld (t := 100) (v := (rI p 91 z7.toInt.toNat)) rfl (.inl rfl) rfl rfl rfl ?_
        intro (g2a : 0 ≤ z7.toInt) (g2b : z7.toInt < 1024)
        refine hp_s (pc' := 137) (st' := [.int 1, .int (rI p 91 z7.toInt.toNat)]) rfl rfl rfl ?_
        refine hp_z (pc' := 138) (e := (rI p 91 z7.toInt.toNat) + 1) (st' := []) rfl rfl rfl ?_
        intro z8 hz8
        have ez8 := i_add hz8 (show (rI p 91 z7.toInt.toNat).toInt = (rI p 91 z7.toInt.toNat).toInt from rfl) (show (1 : Int32).toInt = 1 from by decide)
        refine hp_s (pc' := 139) (st' := [.ref 66, .int z8]) rfl rfl rfl ?_
        refine hp_getr (k := 37) (w := .ref 91) (pc' := 142) rfl rfl rfl rfl rfl ?_
        refine hp_s (pc' := 143) (st' := [.int s, .ref 91, .int z8]) rfl rfl rfl ?_
        refine hp_ld (t := 100) (v := (rI p 91 s.toInt.toNat)) rfl (.inl rfl) rfl rfl rfl ?_
        intro (g3a : 0 ≤ s.toInt) (g3b : s.toInt < 1024)
        refine hp_ic (pc' := 147) (t := 151) (a := z8.toInt) (b := (rI p 91 s.toInt.toNat).toInt) rfl rfl rfl rfl rfl (fun (h5 : (rI p 91 s.toInt.toNat).toInt ≤ z8.toInt) => ?_) (fun (h6 : ¬ ((rI p 91 s.toInt.toNat).toInt ≤ z8.toInt)) => ?_)
        ·
          refine hp_s (pc' := 152) (st' := [.int 0]) rfl rfl rfl ?_
          refine hp_s (pc' := 154) (ls' := [(4, .int 0), (3, .int q), (2, .int s), (0, .ref 66), (1, .int h)]) (st' := []) rfl rfl rfl ?_
          refine hp_s (pc' := 155) (st' := [.ref 66]) rfl rfl rfl ?_
          refine hp_getr (k := 37) (w := .ref 91) (pc' := 158) rfl rfl rfl rfl rfl ?_
          refine hp_s (pc' := 159) (st' := [.int s, .ref 91]) rfl rfl rfl ?_
          refine hp_s (pc' := 161) (st' := [.int 0, .int s, .ref 91]) rfl rfl rfl ?_
          refine hp_go (pc' := 187) rfl rfl rfl ?_
          refine hp_s (pc' := 188) (st' := [.ref 66, .int s, .ref 91]) rfl rfl rfl ?_
          refine hp_getr (k := 37) (w := .ref 91) (pc' := 191) rfl rfl rfl rfl rfl ?_
          refine hp_s (pc' := 192) (st' := [.int s, .ref 91, .int s, .ref 91]) rfl rfl rfl ?_
          refine hp_ld (t := 100) (v := (rI p 91 s.toInt.toNat)) rfl (.inl rfl) rfl rfl rfl ?_
          intro (g4a : 0 ≤ s.toInt) (g4b : s.toInt < 1024)
          refine hp_st (t := 100) rfl (.inl rfl) rfl rfl ?_
          intro p2 wp2 (p2a : 0 ≤ s.toInt) (p2b : s.toInt < 1024) ep2
          refine hp_s (pc' := 195) (st' := [.int q]) rfl rfl rfl ?_
          refine hp_s (pc' := 196) (st' := [.int 1, .int q]) rfl rfl rfl ?_
          refine hp_z (pc' := 197) (e := q - 1) (st' := []) rfl rfl rfl ?_
          intro z9 hz9
          have ez9 := i_sub hz9 (show q.toInt = q.toInt from rfl) (show (1 : Int32).toInt = 1 from by decide)
          refine hp_s (pc' := 198) (st' := [.int s, .int z9]) rfl rfl rfl ?_
          refine hp_z (pc' := 199) (e := z9 &&& s) (st' := []) rfl rfl rfl ?_
          intro z10 hz10
          refine hp_s (pc' := 200) (ls' := [(3, .int z10), (4, .int 0), (2, .int s), (0, .ref 66), (1, .int h)]) (st' := []) rfl rfl rfl ?_
          refine hp_go (pc' := 113) rfl rfl rfl ?_
          have hq2 : z10.toInt = (((P - 1) &&& X : Nat) : Int) := by rw [hz10]; exact iN_and (by omega) hs
          have hP2 : ((P - 1) &&& X) &&& X = (P - 1) &&& X := Nat.eq_of_testBit_eq (fun i => by rw [Nat.testBit_and, Nat.testBit_and]; cases (P - 1).testBit i <;> cases X.testBit i <;> rfl)
          have eX : s.toInt.toNat = X := by omega
          rw [eX] at ep2
          have n1 : hNt [(91, 9999)] p0 p2 := by rw [ep2]; exact hN.w rfl
          have eL : ∀ t, t ≤ X → lsL p2 t = lsL p t := fun t _ => by
            rw [lsL_w wp2 hX10 ep2]
            by_cases g : t = X
            · rw [if_pos g, g]
            · rw [if_neg g]
          refine ih (by omega) z10 (0 : Int32) ((P - 1) &&& X) p2 (by omega) hq2 hP2 n1 (mkB_e (by rw [ep2]; exact (hNt.refl _ _).w rfl) hK) (lsI_k hI eL hP rfl (fun u1 u2 r0 u3 => ?_))
          have u4 := nsF_1 r3 u3
          show (rI p 91 X).toInt ≤ _
          rw [← eX]; omega
        ·
          refine hp_s (pc' := 148) (st' := [.int 1]) rfl rfl rfl ?_
          refine hp_go (pc' := 152) rfl rfl rfl ?_
          refine hp_s (pc' := 154) (ls' := [(4, .int 1), (3, .int q), (2, .int s), (0, .ref 66), (1, .int h)]) (st' := []) rfl rfl rfl ?_
          refine hp_s (pc' := 155) (st' := [.ref 66]) rfl rfl rfl ?_
          refine hp_getr (k := 37) (w := .ref 91) (pc' := 158) rfl rfl rfl rfl rfl ?_
          refine hp_s (pc' := 159) (st' := [.int s, .ref 91]) rfl rfl rfl ?_
          refine hp_s (pc' := 161) (st' := [.int 1, .int s, .ref 91]) rfl rfl rfl ?_
          refine hp_go (pc' := 164) rfl rfl rfl ?_
          refine hp_s (pc' := 165) (st' := [.ref 66, .int s, .ref 91]) rfl rfl rfl ?_
          refine hp_s (pc' := 166) (st' := [.int q, .ref 66, .int s, .ref 91]) rfl rfl rfl ?_
          have hPN : ∀ i, tB P i → i < N9 := fun i hi => tB_N (Nat.lt_of_le_of_lt (by rw [← hP]; exact Nat.and_le_right) hXN) hi
          refine hp_cv (r := 66) (o := 12) (kd := 1) (as := [.int q]) (rest := [.int s, .ref 91]) (pc' := 169) rfl rfl rfl rfl rfl rfl rfl rfl rfl (fun d1 => ?_)
          refine s_isOne N9 B P (si := q.toInt) rfl (by first | assumption | omega) (by first | assumption | omega) (by first | assumption | omega) ?_ ?_
          ·
            intro h7
            refine hp_id (st := [.int 1, .int s, .ref 91]) ?_
            refine hp_go (pc' := 172) rfl rfl rfl ?_
            refine hp_s (pc' := 173) (st' := [.ref 66, .int s, .ref 91]) rfl rfl rfl ?_
            refine hp_getr (k := 37) (w := .ref 91) (pc' := 176) rfl rfl rfl rfl rfl ?_
            refine hp_s (pc' := 177) (st' := [.int s, .ref 91, .int s, .ref 91]) rfl rfl rfl ?_
            refine hp_s (pc' := 178) (st' := [.int q, .int s, .ref 91, .int s, .ref 91]) rfl rfl rfl ?_
            refine hp_s (pc' := 179) (st' := [.int (-1), .int q, .int s, .ref 91, .int s, .ref 91]) rfl rfl rfl ?_
            refine hp_z (pc' := 180) (e := q ^^^ (-1)) (st' := [.int s, .ref 91, .int s, .ref 91]) rfl rfl rfl ?_
            intro z11 hz11
            refine hp_z (pc' := 181) (e := s &&& z11) (st' := [.ref 91, .int s, .ref 91]) rfl rfl rfl ?_
            intro z12 hz12
            have e85 : z12 = z7 := by rw [hz12, hz11, hz7, hz6]
            have e86 : (rI p 91 z12.toInt.toNat).toInt = (r : Int) := by rw [e85]; exact r2
            refine hp_ld (t := 100) (v := (rI p 91 z12.toInt.toNat)) rfl (.inl rfl) rfl rfl rfl ?_
            intro (g5a : 0 ≤ z12.toInt) (g5b : z12.toInt < 1024)
            refine hp_s (pc' := 183) (st' := [.int 1, .int (rI p 91 z12.toInt.toNat), .int s, .ref 91]) rfl rfl rfl ?_
            refine hp_z (pc' := 184) (e := (rI p 91 z12.toInt.toNat) + 1) (st' := [.int s, .ref 91]) rfl rfl rfl ?_
            intro z13 hz13
            have ez13 := i_add hz13 (show (rI p 91 z12.toInt.toNat).toInt = (rI p 91 z12.toInt.toNat).toInt from rfl) (show (1 : Int32).toInt = 1 from by decide)
            refine hp_go (pc' := 193) rfl rfl rfl ?_
            refine hp_st (t := 100) rfl (.inl rfl) rfl rfl ?_
            intro p3 wp3 (p3a : 0 ≤ s.toInt) (p3b : s.toInt < 1024) ep3
            refine hp_s (pc' := 195) (st' := [.int q]) rfl rfl rfl ?_
            refine hp_s (pc' := 196) (st' := [.int 1, .int q]) rfl rfl rfl ?_
            refine hp_z (pc' := 197) (e := q - 1) (st' := []) rfl rfl rfl ?_
            intro z14 hz14
            have ez14 := i_sub hz14 (show q.toInt = q.toInt from rfl) (show (1 : Int32).toInt = 1 from by decide)
            refine hp_s (pc' := 198) (st' := [.int s, .int z14]) rfl rfl rfl ?_
            refine hp_z (pc' := 199) (e := z14 &&& s) (st' := []) rfl rfl rfl ?_
            intro z15 hz15
            refine hp_s (pc' := 200) (ls' := [(3, .int z15), (4, .int 1), (2, .int s), (0, .ref 66), (1, .int h)]) (st' := []) rfl rfl rfl ?_
            refine hp_go (pc' := 113) rfl rfl rfl ?_
            have hq2 : z15.toInt = (((P - 1) &&& X : Nat) : Int) := by rw [hz15]; exact iN_and (by omega) hs
            have hP2 : ((P - 1) &&& X) &&& X = (P - 1) &&& X := Nat.eq_of_testBit_eq (fun i => by rw [Nat.testBit_and, Nat.testBit_and]; cases (P - 1).testBit i <;> cases X.testBit i <;> rfl)
            have eX : s.toInt.toNat = X := by omega
            rw [eX] at ep3
            have n1 : hNt [(91, 9999)] p0 p3 := by rw [ep3]; exact hN.w rfl
            have eL : ∀ t, t < X → lsL p3 t = lsL p t := fun t ht => by rw [lsL_w wp3 hX10 ep3, if_neg (by omega)]
            have eV : lsL p3 X = (r : Int) + 1 := by rw [lsL_w wp3 hX10 ep3, if_pos rfl]; omega
            have eW : (r : Int) + 1 < lsL p X := by show _ < (rI p 91 X).toInt; rw [← eX]; omega
            exact ih (by omega) z15 (1 : Int32) ((P - 1) &&& X) p3 (by omega) hq2 hP2 n1 (mkB_e (by rw [ep3]; exact (hNt.refl _ _).w rfl) hK) (lsI_n hI eL hP rfl r3 h7 eV eW)
          ·
            intro h8
            refine hp_id (st := [.int 0, .int s, .ref 91]) ?_
            refine hp_go (pc' := 187) rfl rfl rfl ?_
            refine hp_s (pc' := 188) (st' := [.ref 66, .int s, .ref 91]) rfl rfl rfl ?_
            refine hp_getr (k := 37) (w := .ref 91) (pc' := 191) rfl rfl rfl rfl rfl ?_
            refine hp_s (pc' := 192) (st' := [.int s, .ref 91, .int s, .ref 91]) rfl rfl rfl ?_
            refine hp_ld (t := 100) (v := (rI p 91 s.toInt.toNat)) rfl (.inl rfl) rfl rfl rfl ?_
            intro (g6a : 0 ≤ s.toInt) (g6b : s.toInt < 1024)
            refine hp_st (t := 100) rfl (.inl rfl) rfl rfl ?_
            intro p4 wp4 (p4a : 0 ≤ s.toInt) (p4b : s.toInt < 1024) ep4
            refine hp_s (pc' := 195) (st' := [.int q]) rfl rfl rfl ?_
            refine hp_s (pc' := 196) (st' := [.int 1, .int q]) rfl rfl rfl ?_
            refine hp_z (pc' := 197) (e := q - 1) (st' := []) rfl rfl rfl ?_
            intro z16 hz16
            have ez16 := i_sub hz16 (show q.toInt = q.toInt from rfl) (show (1 : Int32).toInt = 1 from by decide)
            refine hp_s (pc' := 198) (st' := [.int s, .int z16]) rfl rfl rfl ?_
            refine hp_z (pc' := 199) (e := z16 &&& s) (st' := []) rfl rfl rfl ?_
            intro z17 hz17
            refine hp_s (pc' := 200) (ls' := [(3, .int z17), (4, .int 1), (2, .int s), (0, .ref 66), (1, .int h)]) (st' := []) rfl rfl rfl ?_
            refine hp_go (pc' := 113) rfl rfl rfl ?_
            have hq2 : z17.toInt = (((P - 1) &&& X : Nat) : Int) := by rw [hz17]; exact iN_and (by omega) hs
            have hP2 : ((P - 1) &&& X) &&& X = (P - 1) &&& X := Nat.eq_of_testBit_eq (fun i => by rw [Nat.testBit_and, Nat.testBit_and]; cases (P - 1).testBit i <;> cases X.testBit i <;> rfl)
            have eX : s.toInt.toNat = X := by omega
            rw [eX] at ep4
            have n1 : hNt [(91, 9999)] p0 p4 := by rw [ep4]; exact hN.w rfl
            have eL : ∀ t, t ≤ X → lsL p4 t = lsL p t := fun t _ => by
              rw [lsL_w wp4 hX10 ep4]
              by_cases g : t = X
              · rw [if_pos g, g]
              · rw [if_neg g]
            refine ih (by omega) z17 (1 : Int32) ((P - 1) &&& X) p4 (by omega) hq2 hP2 n1 (mkB_e (by rw [ep4]; exact (hNt.refl _ _).w rfl) hK) (lsI_k hI eL hP rfl (fun u1 u2 r0 u3 => ?_))
            exact absurd u2 h8
theorem lp_242c {ro : List (List Int32)} {d : Nat} {Q : Option Value → xH → Prop} {p0 : xH} {N9 : Nat} {B : Nat → Nat → Prop} {h : Int32} {N : Nat} (hN10 : N9 ≤ 10) (K : ∀ m : Nat, m ≤ N → ∀ (s q b : Int32) (p2 : xH), (hNt [(91, 9999)] p0 p2) → (mkB p2 N9 B) → (lsT B (lsL p2) (2 ^ N9)) → hP ro m d (12, 5, 1, 1, k242) 209 [(2, .int s), (3, .int q), (4, .int b), (0, .ref 66), (1, .int h)] [] p2 Q) : ∀ (n : Nat) (hn : n ≤ N) (s : Int32) (q : Int32) (b : Int32) (X : Nat) (p : xH), (s.toInt = (X : Int)) → (1 ≤ X) → (X ≤ 2 ^ N9) → (hNt [(91, 9999)] p0 p) → (mkB p N9 B) → (lsT B (lsL p) X) → hP ro n d (12, 5, 1, 1, k242) 93 [(2, .int s), (3, .int q), (4, .int b), (0, .ref 66), (1, .int h)] [] p Q := by
  intro n
  induction n with
  | zero => intros; exact hp_0
  | succ n ih =>
    intro hn s q b X p hs hX1 hX2 hN hK hI
    refine hp_s1 (pc' := 94) (st' := [.int s]) rfl rfl rfl ?_
    refine hp_s (pc' := 95) (st' := [.int 1, .int s]) rfl rfl rfl ?_
    refine hp_s (pc' := 96) (st' := [.ref 66, .int 1, .int s]) rfl rfl rfl ?_
    refine hp_get (k := 34) (pc' := 99) (v := (rI p 66 34)) rfl rfl rfl rfl rfl rfl ?_
    refine hp_z (pc' := 100) (e := 1 <<< ((rI p 66 34) &&& 31)) (st' := [.int s]) rfl rfl rfl ?_
    intro z1 hz1
    have hpw : z1.toInt = ((2 ^ N9 : Nat) : Int) := by rw [hz1, i_k (show (rI p 66 34).toInt = (N9 : Int) from hK.1)]; exact pw_10 N9 hN10
    refine hp_ic (pc' := 103) (t := 209) (a := s.toInt) (b := z1.toInt) rfl rfl rfl rfl rfl (fun (h1 : z1.toInt ≤ s.toInt) => ?_) (fun (h2 : ¬ (z1.toInt ≤ s.toInt)) => ?_)
    ·
      exact K n (by omega) _ _ _ p hN hK (by rw [show X = 2 ^ N9 by omega] at hI; exact hI)
    ·
      have hXN : X < 2 ^ N9 := by omega
      refine hp_s (pc' := 104) (st' := [.ref 66]) rfl rfl rfl ?_
      refine hp_getr (k := 37) (w := .ref 91) (pc' := 107) rfl rfl rfl rfl rfl ?_
      refine hp_s (pc' := 108) (st' := [.int s, .ref 91]) rfl rfl rfl ?_
      refine hp_s (pc' := 110) (st' := [.int 11, .int s, .ref 91]) rfl rfl rfl ?_
      refine hp_st (t := 100) rfl (.inl rfl) rfl rfl ?_
      intro p1 wp1 (p1a : 0 ≤ s.toInt) (p1b : s.toInt < 1024) ep1
      refine hp_s (pc' := 112) (st' := [.int s]) rfl rfl rfl ?_
      refine hp_s (pc' := 113) (ls' := [(3, .int s), (2, .int s), (4, .int b), (0, .ref 66), (1, .int h)]) (st' := []) rfl rfl rfl ?_
      refine hp_ls (ls' := [(3, .int s), (4, .int b), (2, .int s), (0, .ref 66), (1, .int h)]) rfl rfl ⟨rfl, rfl, rfl, rfl, rfl, trivial⟩ ?_
      have n1 : hNt [(91, 9999)] p0 p1 := (by rw [ep1]; exact (hNt.w hN rfl))
      have hX10 : X < 1024 := by have := pw_le N9 hN10; omega
      obtain ⟨m, m1, m2, m3⟩ := lw_m hs (by omega) hX10
      have eX : s.toInt.toNat = X := by omega
      rw [eX] at ep1
      refine lp_242d (p0 := p1) (N := n) (N9 := N9) (B := B) (X := X) (m := m) (s := s) (h := h) hN10 hs hXN hX10 (by omega) m1 m2 m3 (fun m0 hm0 q b pe j1 j2 => ?_) n (Nat.le_refl _) s b X p1 (by omega) hs (Nat.and_self X) (hNt.refl _ _) (mkB_e (by rw [ep1]; exact (hNt.refl _ _).w rfl) hK) (lsI_0 hI (fun t ht => by rw [lsL_w wp1 hX10 ep1, if_neg (by omega)]) (by rw [lsL_w wp1 hX10 ep1, if_pos rfl]; decide))
      refine hp_inc (L := fun z_ => [(2, .int z_), (3, .int q), (4, .int b), (0, .ref 66), (1, .int h)]) (pc' := 206) rfl rfl rfl (fun _ => rfl) rfl ?_
      intro z2 hz2
      have ez2 := i_add hz2 (show s.toInt = s.toInt from rfl) (show (Int32.ofInt 1).toInt = 1 from by decide)
      refine hp_go (pc' := 93) rfl rfl rfl ?_
      exact hp_le hm0 (ih (by omega) z2 q b (X + 1) pe (by omega) (by omega) (by omega) (n1.trans j1) (mkB_e j1 (mkB_e (by rw [ep1]; exact (hNt.refl _ _).w rfl) hK)) j2)
theorem M_atLeast {ro : List (List Int32)} {n d : Nat} {p : xH} {Q : Option Value → xH → Prop} {h : Int32} {hi : Int} (hh : h.toInt = hi) (pre0 : 0 ≤ (rI p 66 34).toInt) (pre1 : (rI p 66 34).toInt ≤ 10) (pre2 : ∀ j, 0 ≤ (rI p 89 j).toInt ∧ (rI p 89 j).toInt < 64) (k0 : (¬ (0 ≤ hi ∧ hi ≤ 6)) → Q (some (.int (-1))) p) (k1 : ∀ z : Int32, ∀ p2 : xH, ∀ r : Nat, (hNt T_ls p p2) → (0 ≤ hi) → (hi ≤ 6) → (nsF (sBM p hi) (fun i => i < (rI p 66 34).toInt.toNat) r) → (z.toInt = (r : Int)) → Q (some (.int z)) p2) : hP ro n d (12, 5, 1, 1, k242) 0 (lv_args 0 [.ref 66, .int h]) [] p Q := by
  subst hh
  refine hp_id (ls := [(0, .ref 66), (1, .int h)]) ?_
  refine hp_s (pc' := 1) (st' := [.int h]) rfl rfl rfl ?_
  refine hp_i2l (pc' := 2) rfl rfl ?_
  intro z1 hz1 ez1
  refine hp_s (pc' := 3) (st' := [.long 0, .long z1]) rfl rfl rfl ?_
  refine hp_s (pc' := 6) (st' := [.long 6, .long 0, .long z1]) rfl rfl rfl ?_
  refine hp_cs (kd := 0) (as := [.long z1, .long 0, .long 6]) (rest := []) (pc' := 9) rfl rfl rfl rfl rfl rfl rfl (fun d1 => ?_)
  refine s_within (vi := h.toInt) ez1 (ai := 0) (by decide) (bi := 6) (by decide) ?_ ?_
  ·
    intro h1 h2
    refine hp_id (st := [.int 1]) ?_
    refine hp_go (pc' := 14) rfl rfl rfl ?_
    refine hp_s (pc' := 15) (st' := [.int 0]) rfl rfl rfl ?_
    refine hp_s (pc' := 16) (ls' := [(2, .int 0), (0, .ref 66), (1, .int h)]) (st' := []) rfl rfl rfl ?_
    refine hp_ls (ls' := [(2, .int 0), (3, .int 0), (4, .int 0), (0, .ref 66), (1, .int h)]) rfl rfl ⟨rfl, rfl, rfl, trivial⟩ ?_
    refine lp_242a (p0 := p) (N := n) (SS := (rI p 66 34).toInt.toNat) (h := h) (by omega) (by omega) pre2 (fun m0 hm0 i j b pe j1 j2 => ?_) n (Nat.le_refl _) 0 (0 : Int32) (0 : Int32) p (by decide) (by have h00 : (0 : Int32).toInt = 0 := (by decide); omega) (hNt.refl _ _) (fun m hm => absurd hm (by rw [i_ofz]; exact Nat.not_lt_zero _))
    refine hp_s (pc' := 85) (st' := [.ref 66]) rfl rfl rfl ?_
    refine hp_getr (k := 37) (w := .ref 91) (pc' := 88) rfl rfl rfl rfl rfl ?_
    refine hp_s (pc' := 89) (st' := [.int 0, .ref 91]) rfl rfl rfl ?_
    refine hp_s (pc' := 90) (st' := [.int 0, .int 0, .ref 91]) rfl rfl rfl ?_
    refine hp_st (t := 100) rfl (.inl rfl) rfl rfl ?_
    intro p1 wp1 (p1a : 0 ≤ (0 : Int32).toInt) (p1b : (0 : Int32).toInt < 1024) ep1
    refine hp_s (pc' := 92) (st' := [.int 1]) rfl rfl rfl ?_
    refine hp_s (pc' := 93) (ls' := [(2, .int 1), (3, .int j), (4, .int b), (0, .ref 66), (1, .int h)]) (st' := []) rfl rfl rfl ?_
    rw [i_ofz] at ep1
    have eB0 : sBM p1 h.toInt = sBM p h.toInt := sBM_e (fun j => by rw [ep1, rI_o (by decide), j1.int (r := 89) rfl])
    have hK0 : mkB p1 (rI p 66 34).toInt.toNat (sBM p h.toInt) := ⟨by rw [ep1, rI_o (by decide), j1.int (r := 66) (k := 34) rfl]; omega, by omega, fun n hn c hc => by rw [ep1, rI_o (by decide)]; exact j2 n hn c hc⟩
    refine lp_242c (p0 := p1) (N := m0) (N9 := (rI p 66 34).toInt.toNat) (B := sBM p h.toInt) (h := h) (by omega) (fun m1 hm1 s q b pf k3 k4 k5 => ?_) m0 (Nat.le_refl _) 1 j b 1 p1 (by decide) (by decide) (Nat.one_le_two_pow) (hNt.refl _ _) hK0 (lsT_0 (by show (rI p1 91 0).toInt = 0; rw [ep1, rI_eq wp1 (by decide)]; decide))
    refine hp_s (pc' := 210) (st' := [.ref 66]) rfl rfl rfl ?_
    refine hp_getr (k := 37) (w := .ref 91) (pc' := 213) rfl rfl rfl rfl rfl ?_
    refine hp_s (pc' := 214) (st' := [.int 1, .ref 91]) rfl rfl rfl ?_
    refine hp_s (pc' := 215) (st' := [.ref 66, .int 1, .ref 91]) rfl rfl rfl ?_
    refine hp_get (k := 34) (pc' := 218) (v := (rI pf 66 34)) rfl rfl rfl rfl rfl rfl ?_
    refine hp_z (pc' := 219) (e := 1 <<< ((rI pf 66 34) &&& 31)) (st' := [.ref 91]) rfl rfl rfl ?_
    intro z2 hz2
    have hpw : z2.toInt = ((2 ^ (rI p 66 34).toInt.toNat : Nat) : Int) := by rw [hz2, i_k (show (rI pf 66 34).toInt = ((rI p 66 34).toInt.toNat : Int) from k4.1)]; exact pw_10 _ (by omega)
    have hpl := pw_le (rI p 66 34).toInt.toNat (by omega)
    have hpg : 1 ≤ 2 ^ (rI p 66 34).toInt.toNat := Nat.one_le_two_pow
    refine hp_s (pc' := 220) (st' := [.int 1, .int z2, .ref 91]) rfl rfl rfl ?_
    refine hp_z (pc' := 221) (e := z2 - 1) (st' := [.ref 91]) rfl rfl rfl ?_
    intro z3 hz3
    have ez3 := i_sub hz3 (show z2.toInt = z2.toInt from rfl) (show (1 : Int32).toInt = 1 from by decide)
    refine hp_ld (t := 100) (v := (rI pf 91 z3.toInt.toNat)) rfl (.inl rfl) rfl rfl rfl ?_
    intro (g1a : 0 ≤ z3.toInt) (g1b : z3.toInt < 1024)
    refine hp_ri rfl rfl ?_
    obtain ⟨r, r1, r2⟩ := k5 (2 ^ (rI p 66 34).toInt.toNat - 1) (by omega)
    have r3 : nsF (sBM p h.toInt) (fun i => i < (rI p 66 34).toInt.toNat) r := nsF_e (fun i => by show (2 ^ (rI p 66 34).toInt.toNat - 1).testBit i = true ↔ _; rw [Nat.testBit_two_pow_sub_one, decide_eq_true_iff]) (fun _ _ _ _ => Iff.rfl) r1
    have n9 : hNt T_ls p pf := hNt.trans (j1.up (by decide)) (hNt.trans (by rw [ep1]; exact (hNt.refl _ _).w rfl) (k3.up (by decide)))
    refine k1 _ pf r n9 (by omega) (by omega) r3 ?_
    rw [← r2]
    show (rI pf 91 _).toInt = (rI pf 91 _).toInt
    congr 2; omega
  ·
    intro h3
    refine hp_id (st := [.int 0]) ?_
    refine hp_go (pc' := 12) rfl rfl rfl ?_
    refine hp_s (pc' := 13) (st' := [.int (-1)]) rfl rfl rfl ?_
    refine hp_ri rfl rfl ?_
    exact k0 (by omega)
