/-! contracts of methods, walked -/
abbrev T_ff : List (Nat × Nat) := [(20, 4), (23, 9999), (24, 9999), (45, 9999), (46, 9999)]
abbrev T_fe : List (Nat × Nat) := [(20, 4), (23, 9999), (24, 9999), (45, 9999), (46, 9999), (47, 9999), (48, 9999), (44, 6)]
theorem fr_row {m z w : Int32} (h0 : 0 ≤ m.toInt) (h : m.toInt < 64) (hw : w = m <<< ((1 : Int32) &&& 31)) (hz : z = (1 : Int32) ||| w) : ∀ c, c < 32 → (bI z c = true ↔ c < 7 ∧ (c = 0 ∨ (1 ≤ c ∧ c ≤ 6 ∧ bI m (c - 1) = true))) := fun c hc => by
  rw [hz, hw, bI_or, bI_1 c hc, bI_shl m (q := 1) (j := 1) (by decide) (by decide) hc, Bool.or_eq_true, decide_eq_true_iff, Bool.and_eq_true, Bool.not_eq_true', decide_eq_false_iff_not]
  constructor
  · rintro (g | ⟨g1, g2⟩)
    · exact ⟨by omega, Or.inl g⟩
    · by_cases q : c ≤ 6
      · exact ⟨by omega, Or.inr ⟨by omega, q, g2⟩⟩
      · rw [bI_hi (S := 6) (by decide) h0 (by show m.toInt < 64; exact h) (c - 1) (by omega) (by omega)] at g2; cases g2
  · rintro ⟨g, q | ⟨q1, q2, q3⟩⟩
    · exact Or.inl q
    · exact Or.inr ⟨by omega, q3⟩
def ffS (p : xH) (S : Nat) (M : Nat → Nat → Prop) (C : Nat → Nat → Nat → Nat → Prop) (k c : Nat) : Prop := (∀ n, n < k → ∀ a, a < 7 → M n a → kR p M C n a S) ∧ ∀ a, a < c → M k a → kR p M C k a S
theorem kR_o {p p2 : xH} {S : Nat} {M : Nat → Nat → Prop} {C : Nat → Nat → Nat → Nat → Prop} {X A n a : Nat} (hO : kO p p2 X A) (hS : S ≤ 7) (ha : a < 7) (hA : A < 7) (h : n < X ∨ (n = X ∧ a < A)) (g : kR p M C n a S) : kR p2 M C n a S := fun q q1 q2 c hc => by
  rw [hO _ (by omega)]
  exact g q q1 q2 c hc
theorem ffS_s {p p2 : xH} {S : Nat} {M : Nat → Nat → Prop} {C : Nat → Nat → Nat → Nat → Prop} {k c c2 : Nat} (hS : S ≤ 7) (hc : c < 7) (hO : kO p p2 k c) (hR : M k c → kR p2 M C k c S) (e : c2 = c + 1) (h : ffS p S M C k c) : ffS p2 S M C k c2 := by
  refine ⟨fun n hn a ha hM => kR_o hO hS ha hc (Or.inl hn) (h.1 n hn a ha hM), fun a ha hM => ?_⟩
  by_cases g : a = c
  · rw [g] at hM ⊢; exact hR hM
  · exact kR_o hO hS (by omega) hc (Or.inr ⟨rfl, by omega⟩) (h.2 a (by omega) hM)
theorem ffS_n {p : xH} {S : Nat} {M : Nat → Nat → Prop} {C : Nat → Nat → Nat → Nat → Prop} {k k2 : Nat} (e : k2 = k + 1) (h : ffS p S M C k 7) : ffS p S M C k2 0 := by
  refine ⟨fun n hn a ha hM => ?_, fun a ha => absurd ha (Nat.not_lt_zero _)⟩
  by_cases g : n = k
  · rw [g] at hM ⊢; exact h.2 a ha hM
  · exact h.1 n (by omega) a ha hM
theorem ffS_e {p p2 : xH} {S : Nat} {M : Nat → Nat → Prop} {C : Nat → Nat → Nat → Nat → Prop} {k c : Nat} (e : ∀ j, rI p2 45 j = rI p 45 j) (h : ffS p S M C k c) : ffS p2 S M C k c := ⟨fun n hn a ha hM q q1 q2 i hi => by rw [e]; exact h.1 n hn a ha hM q q1 q2 i hi, fun a ha hM q q1 q2 i hi => by rw [e]; exact h.2 a ha hM q q1 q2 i hi⟩
noncomputable def hsB (S : Nat) (M : Nat → Nat → Prop) (C : Nat → Nat → Nat → Nat → Prop) : Nat × List Nat := (wY M C S []).foldl hBb (8, [])
theorem lp_118b {ro : List (List Int32)} {d : Nat} {Q : Option Value → xH → Prop} {p0 : xH} {lo : Option (List yN)} {S : Nat} {k : Int32} {N : Nat} (g0 : lXo p0 lo) (k0 : 0 ≤ k.toInt) (kS : k.toInt < S) (gS : (rI p0 13 7).toInt = (S : Int)) (hS7 : S ≤ 7) (K : ∀ m : Nat, m ≤ N → ∀ (c : Int32) (p2 : xH), (hNt T_fc p0 p2) → (ffS p2 S (hM p0 15 0) (kX p0 lo) k.toInt.toNat 7) → hP ro m d (10, 3, 1, 2, k118) 52 [(2, .int c), (1, .int k), (0, .ref 44)] [] p2 Q) : ∀ (n : Nat) (hn : n ≤ N) (c : Int32) (p : xH), (0 ≤ c.toInt) → (c.toInt ≤ 7) → (hNt T_fc p0 p) → (ffS p S (hM p0 15 0) (kX p0 lo) k.toInt.toNat c.toInt.toNat) → hP ro n d (10, 3, 1, 2, k118) 34 [(2, .int c), (1, .int k), (0, .ref 44)] [] p Q := by
  intro n
  induction n with
  | zero => intros; exact hp_0
  | succ n ih =>
    intro hn c p hc1 hc2 hN hA
    have hlo : lXo p lo := lXo_nt hN rfl (fun _ => rfl) (fun _ => rfl) g0
    have eM : hM p 15 0 = hM p0 15 0 := hM_e (fun j => hN.int (r := 15) rfl)
    have eK : kX p lo = kX p0 lo := kX_e (fun j => hN.int (r := 14) rfl) (hN.int (r := 13) (k := 9) rfl) (hN.int (r := 13) (k := 8) rfl)
    have e13 : (rI p 13 7).toInt = (S : Int) := by rw [hN.int (r := 13) (k := 7) rfl]; exact gS
    refine hp_s1 (pc' := 35) (st' := [.int c]) rfl rfl rfl ?_
    refine hp_s (pc' := 37) (st' := [.int 7, .int c]) rfl rfl rfl ?_
    refine hp_ic (pc' := 40) (t := 52) (a := c.toInt) (b := 7) rfl rfl rfl rfl (by decide) (fun (h1 : 7 ≤ c.toInt) => ?_) (fun (h2 : ¬ (7 ≤ c.toInt)) => ?_)
    ·
      exact K n (by omega) _ p hN (by rw [show c.toInt.toNat = 7 by omega] at hA; exact hA)
    ·
      refine hp_s (pc' := 41) (st' := [.ref 44]) rfl rfl rfl ?_
      refine hp_s (pc' := 42) (st' := [.int k, .ref 44]) rfl rfl rfl ?_
      refine hp_s (pc' := 43) (st' := [.int c, .int k, .ref 44]) rfl rfl rfl ?_
      refine hp_cv (r := 44) (o := 10) (kd := 1) (as := [.int k, .int c]) (rest := []) (pc' := 46) rfl rfl rfl rfl rfl rfl rfl rfl rfl (fun d1 => ?_)
      refine s_findClashes lo S (xi := k.toInt) rfl (ai := c.toInt) rfl (by first | assumption | omega) (by first | assumption | omega) (by first | assumption | omega) (by first | assumption | omega) (by first | assumption | omega) (by first | assumption | omega) (by first | assumption | omega) ?_
      intro p1 h3 h4 h5
      refine hp_id (st := []) ?_
      refine hp_inc (L := fun z_ => [(2, .int z_), (1, .int k), (0, .ref 44)]) (pc' := 49) rfl rfl rfl (fun _ => rfl) rfl ?_
      intro z1 hz1
      have ez1 := i_add hz1 (show c.toInt = c.toInt from rfl) (show (Int32.ofInt 1).toInt = 1 from by decide)
      refine hp_go (pc' := 34) rfl rfl rfl ?_
      refine ih (by omega) z1 p1 (by omega) (by omega) (hN.trans h3) (ffS_s hS7 (by omega) h5 (fun g => by have q := h4 (by rw [eM]; exact g); rw [eM, eK] at q; exact q) (by omega) hA)
theorem lp_118a {ro : List (List Int32)} {d : Nat} {Q : Option Value → xH → Prop} {p0 : xH} {lo : Option (List yN)} {S : Nat} {N : Nat} (g0 : lXo p0 lo) (gS : (rI p0 13 7).toInt = (S : Int)) (hS7 : S ≤ 7) (gR : ∀ j, 0 ≤ (rI p0 15 j).toInt ∧ (rI p0 15 j).toInt < 64) (K : ∀ m : Nat, m ≤ N → ∀ (k c : Int32) (p2 : xH), (hNt T_ff p0 p2) → (∀ n, n < S → ∀ a, a < 7 → hM p0 15 0 n a → kR p2 (hM p0 15 0) (kX p0 lo) n a S) → (∀ j, j < S → ∀ c, c < 32 → (bI (rI p2 46 j) c = true ↔ c < 7 ∧ hM p0 15 0 j c)) → hP ro m d (10, 3, 1, 2, k118) 58 [(1, .int k), (2, .int c), (0, .ref 44)] [] p2 Q) : ∀ (n : Nat) (hn : n ≤ N) (k : Int32) (c : Int32) (p : xH), (0 ≤ k.toInt) → (k.toInt ≤ S) → (hNt T_ff p0 p) → (ffS p S (hM p0 15 0) (kX p0 lo) k.toInt.toNat 0) → (∀ j, j < k.toInt.toNat → ∀ c, c < 32 → (bI (rI p 46 j) c = true ↔ c < 7 ∧ hM p0 15 0 j c)) → hP ro n d (10, 3, 1, 2, k118) 2 [(1, .int k), (2, .int c), (0, .ref 44)] [] p Q := by
  intro n
  induction n with
  | zero => intros; exact hp_0
  | succ n ih =>
    intro hn k c p hk1 hk2 hN hA hF
    have e13 : (rI p 13 7).toInt = (S : Int) := by rw [hN.int (r := 13) (k := 7) rfl]; exact gS
    have hR15 : ∀ j, 0 ≤ (rI p 15 j).toInt ∧ (rI p 15 j).toInt < 64 := fun j => by rw [hN.int (r := 15) rfl]; exact gR j
    refine hp_s1 (pc' := 3) (st' := [.int k]) rfl rfl rfl ?_
    refine hp_s (pc' := 4) (st' := [.ref 44, .int k]) rfl rfl rfl ?_
    refine hp_getr (k := 0) (w := .ref 13) (pc' := 7) rfl rfl rfl rfl rfl ?_
    refine hp_get (k := 7) (pc' := 10) (v := (rI p 13 7)) rfl rfl rfl rfl rfl rfl ?_
    refine hp_ic (pc' := 13) (t := 58) (a := k.toInt) (b := (rI p 13 7).toInt) rfl rfl rfl rfl rfl (fun (h1 : (rI p 13 7).toInt ≤ k.toInt) => ?_) (fun (h2 : ¬ ((rI p 13 7).toInt ≤ k.toInt)) => ?_)
    ·
      exact K n (by omega) _ _ p hN (by rw [show k.toInt.toNat = S by omega] at hA; exact hA.1) (by rw [show k.toInt.toNat = S by omega] at hF; exact hF)
    ·
      refine hp_s (pc' := 14) (st' := [.ref 44]) rfl rfl rfl ?_
      refine hp_getr (k := 3) (w := .ref 46) (pc' := 17) rfl rfl rfl rfl rfl ?_
      refine hp_s (pc' := 18) (st' := [.int k, .ref 46]) rfl rfl rfl ?_
      refine hp_s (pc' := 19) (st' := [.int 1, .int k, .ref 46]) rfl rfl rfl ?_
      refine hp_s (pc' := 20) (st' := [.ref 44, .int 1, .int k, .ref 46]) rfl rfl rfl ?_
      refine hp_getr (k := 0) (w := .ref 13) (pc' := 23) rfl rfl rfl rfl rfl ?_
      refine hp_getr (k := 2) (w := .ref 15) (pc' := 26) rfl rfl rfl rfl rfl ?_
      refine hp_s (pc' := 27) (st' := [.int k, .ref 15, .int 1, .int k, .ref 46]) rfl rfl rfl ?_
      refine hp_ld (t := 100) (v := (rI p 15 k.toInt.toNat)) rfl (.inl rfl) rfl rfl rfl ?_
      intro (g1a : 0 ≤ k.toInt) (g1b : k.toInt < 7)
      refine hp_s (pc' := 29) (st' := [.int 1, .int (rI p 15 k.toInt.toNat), .int 1, .int k, .ref 46]) rfl rfl rfl ?_
      refine hp_z (pc' := 30) (e := (rI p 15 k.toInt.toNat) <<< (1 &&& 31)) (st' := [.int 1, .int k, .ref 46]) rfl rfl rfl ?_
      intro z1 hz1
      refine hp_z (pc' := 31) (e := 1 ||| z1) (st' := [.int k, .ref 46]) rfl rfl rfl ?_
      intro z2 hz2
      refine hp_st (t := 100) rfl (.inl rfl) rfl rfl ?_
      intro p1 wp1 (p1a : 0 ≤ k.toInt) (p1b : k.toInt < 56) ep1
      refine hp_s (pc' := 33) (st' := [.int 0]) rfl rfl rfl ?_
      refine hp_s (pc' := 34) (ls' := [(2, .int 0), (1, .int k), (0, .ref 44)]) (st' := []) rfl rfl rfl ?_
      have n1 : hNt T_ff p0 p1 := (by rw [ep1]; exact (hNt.w hN rfl))
      refine lp_118b (p0 := p1) (lo := lo) (N := n) (S := S) (k := k) (lXo_nt n1 rfl (fun _ => rfl) (fun _ => rfl) g0) hk1 (by omega) (by rw [n1.int (r := 13) (k := 7) rfl]; exact gS) hS7 (fun m0 hm0 c pe j1 j2 => ?_) n (Nat.le_refl _) 0 p1 (by decide) (by decide) (hNt.refl _ _) (by rw [i_ofz, show hM p1 15 0 = hM p0 15 0 from hM_e (fun j => n1.int (r := 15) rfl), show kX p1 lo = kX p0 lo from kX_e (fun j => n1.int (r := 14) rfl) (n1.int (r := 13) (k := 9) rfl) (n1.int (r := 13) (k := 8) rfl)]; exact ffS_e (fun j => by rw [ep1, rI_o (by decide)]) hA)
      refine hp_inc (L := fun z_ => [(1, .int z_), (2, .int c), (0, .ref 44)]) (pc' := 55) rfl rfl rfl (fun _ => rfl) rfl ?_
      intro z3 hz3
      have ez3 := i_add hz3 (show k.toInt = k.toInt from rfl) (show (Int32.ofInt 1).toInt = 1 from by decide)
      refine hp_go (pc' := 2) rfl rfl rfl ?_
      have eM1 : hM p1 15 0 = hM p0 15 0 := hM_e (fun j => n1.int (r := 15) rfl)
      have eK1 : kX p1 lo = kX p0 lo := kX_e (fun j => n1.int (r := 14) rfl) (n1.int (r := 13) (k := 9) rfl) (n1.int (r := 13) (k := 8) rfl)
      rw [eM1, eK1] at j2
      refine hp_le hm0 (ih (by omega) z3 c pe (by omega) (by omega) (n1.trans (j1.up (by decide))) (ffS_n (by omega) j2) (fun j hj c2 hc => ?_))
      rw [j1.int (r := 46) rfl, ep1, rI_w wp1 (by show _ < 56; omega)]
      by_cases g : j = k.toInt.toNat
      · rw [if_pos g, g]
        have q := fr_row (hR15 _).1 (hR15 _).2 hz1 hz2 c2 hc
        rw [q, hN.int (r := 15) rfl]
        unfold hM
        rw [Nat.zero_add]
      · rw [if_neg g]; exact hF j (by omega) c2 hc
theorem s_findFewest {ro : List (List Int32)} {n d : Nat} {p : xH} {Q : Option Value → xH → Prop} (lo : Option (List yN)) (S : Nat)  (pre0 : lXo p lo) (pre1 : (rI p 13 7).toInt = (S : Int)) (pre2 : S ≤ 7) (pre3 : ∀ j, 0 ≤ (rI p 15 j).toInt ∧ (rI p 15 j).toInt < 64) (k0 : ∀ p2 : xH, (hNt T_fe p p2) → ((rI p2 44 6).toInt = (((hsB S (hM p 15 0) (kX p lo)).1 : Nat) : Int)) → ((hsB S (hM p 15 0) (kX p lo)).1 ≤ 7) → (∀ i, i < S → (rI p2 48 i).toInt = ((ix (hsB S (hM p 15 0) (kX p lo)).2 i : Nat) : Int) - 1) → Q (some (.int (1))) p2) (k1 : ∀ p2 : xH, (hNt T_fe p p2) → ((hsB S (hM p 15 0) (kX p lo)).1 = 8) → Q (some (.int (0))) p2) : hP ro n d (10, 3, 1, 2, k118) 0 (lv_args 0 [.ref 44]) [] p Q := by
  refine hp_id (ls := [(0, .ref 44)]) ?_
  refine hp_s (pc' := 1) (st' := [.int 0]) rfl rfl rfl ?_
  refine hp_s (pc' := 2) (ls' := [(1, .int 0), (0, .ref 44)]) (st' := []) rfl rfl rfl ?_
  refine hp_ls (ls' := [(1, .int 0), (2, .int 0), (0, .ref 44)]) rfl rfl ⟨rfl, rfl, trivial⟩ ?_
  refine lp_118a (p0 := p) (lo := lo) (N := n) (S := S) pre0 pre1 pre2 pre3 (fun m0 hm0 k c pe j1 j2 j3 => ?_) n (Nat.le_refl _) 0 (0 : Int32) p (by decide) (by have h00 : (0 : Int32).toInt = 0 := (by decide); omega) (hNt.refl _ _) ⟨fun j hj => absurd hj (by rw [i_ofz]; exact Nat.not_lt_zero _), fun j hj => absurd hj (Nat.not_lt_zero _)⟩ (fun j hj => absurd hj (by rw [i_ofz]; exact Nat.not_lt_zero _))
  refine hp_s (pc' := 59) (st' := [.ref 44]) rfl rfl rfl ?_
  refine hp_s (pc' := 61) (st' := [.int 8, .ref 44]) rfl rfl rfl ?_
  refine hp_put (k := 6) (pc' := 64) rfl rfl rfl rfl rfl ?_
  intro p1 wp1 ep1
  refine hp_s (pc' := 65) (st' := [.ref 44]) rfl rfl rfl ?_
  refine hp_s (pc' := 66) (st' := [.int 0, .ref 44]) rfl rfl rfl ?_
  refine hp_s (pc' := 67) (st' := [.int 0, .int 0, .ref 44]) rfl rfl rfl ?_
  have n1 : hNt T_fe p p1 := (by rw [ep1]; exact (hNt.w (j1.up (by decide)) rfl))
  have r0 : hsX p1 S (hM p 15 0) (kX p lo) [] (8, []) := by
    refine ⟨⟨by rw [n1.int (r := 13) (k := 7) rfl]; exact pre1, pre2, fun n hn a ha hM q q1 q2 c hc => by rw [ep1, rI_o (by decide)]; exact j2 n hn a ha hM q q1 q2 c hc⟩, Nat.zero_le _, fun q q1 q2 c hc => ?_, fun i hi => absurd hi (Nat.not_lt_zero _), by rw [ep1, rI_eq wp1 (by decide)]; decide, Nat.le_refl _, fun g => absurd g (Nat.lt_irrefl _)⟩
    rw [show 7 * ([] : List Nat).length + q = q by show 7 * 0 + q = q; omega, ep1, rI_o (by decide), j3 q q2 c hc]
    exact ⟨fun g => ⟨g.1, g.2, fun i hi => absurd hi (Nat.not_lt_zero _)⟩, fun g => ⟨g.1, g.2.1⟩⟩
  have r1 : (0 : Int) = (([] : List Nat).length : Int) := rfl
  have r2 : (0 : Int) = ((hn [] : Nat) : Int) := rfl
  refine hp_cv (r := 44) (o := 10) (kd := 1) (as := [.int 0, .int 0]) (rest := []) (pc' := 70) rfl rfl rfl rfl rfl rfl rfl rfl rfl (fun d1 => ?_)
  refine s_chooseFrom S (hM p 15 0) (kX p lo) [] (8, []) (xi := 0) (by decide) (wi := 0) (by decide) (by first | assumption | omega) (by first | assumption | omega) (by first | assumption | omega) ?_
  intro p2 h1 h2 h3
  obtain ⟨x1, x2, x3, x4, x5, x6, x7⟩ := h2
  rw [show S - ([] : List Nat).length = S from Nat.sub_zero _] at x5 x6 x7
  refine hp_id (st := []) ?_
  refine hp_s (pc' := 71) (st' := [.ref 44]) rfl rfl rfl ?_
  refine hp_get (k := 6) (pc' := 74) (v := (rI p2 44 6)) rfl rfl rfl rfl rfl rfl ?_
  refine hp_s (pc' := 76) (st' := [.int 7, .int (rI p2 44 6)]) rfl rfl rfl ?_
  refine hp_ic (pc' := 79) (t := 83) (a := (rI p2 44 6).toInt) (b := 7) rfl rfl rfl rfl (by decide) (fun (h4 : 7 < (rI p2 44 6).toInt) => ?_) (fun (h5 : ¬ (7 < (rI p2 44 6).toInt)) => ?_)
  ·
    refine hp_s (pc' := 84) (st' := [.int 0]) rfl rfl rfl ?_
    refine hp_rb rfl rfl (fun _ => ?_)
    exact k1 p2 (n1.trans (h1.up (by decide))) (by show ((wY _ _ _ _).foldl hBb (8, [])).1 = 8; omega)
  ·
    refine hp_s (pc' := 80) (st' := [.int 1]) rfl rfl rfl ?_
    refine hp_go (pc' := 84) rfl rfl rfl ?_
    refine hp_rb rfl rfl (fun _ => ?_)
    exact k0 p2 (n1.trans (h1.up (by decide))) x5 (by show ((wY _ _ _ _).foldl hBb (8, [])).1 ≤ 7; omega) (x7 (by omega))
theorem X_hats {ro : List (List Int32)} {n d : Nat} {p : xH} {Q : Option Value → xH → Prop} (lo : Option (List yN)) {x : Int32} {xi : Int} (hx : x.toInt = xi) (pre0 : lXo p lo) (pre1 : 0 ≤ (rI p 13 7).toInt) (pre2 : (rI p 13 7).toInt ≤ 7) (pre3 : ∀ j, 0 ≤ (rI p 15 j).toInt ∧ (rI p 15 j).toInt < 64) (k0 : (xi ≠ -1) → (¬ (0 ≤ xi ∧ xi < (rI p 13 7).toInt)) → Q (some (.int (-2000000000))) p) (k1 : ∀ p2 : xH, (hNt T_fe p p2) → (xi = -1 ∨ (0 ≤ xi ∧ xi < (rI p 13 7).toInt)) → ((hsB (rI p 13 7).toInt.toNat (hM p 15 0) (kX p lo)).1 = 8) → Q (some (.int (-2))) p2) (k2 : ∀ z : Int32, ∀ p2 : xH, (hNt T_fe p p2) → (xi = -1) → ((hsB (rI p 13 7).toInt.toNat (hM p 15 0) (kX p lo)).1 ≤ 7) → (z.toInt = (((hsB (rI p 13 7).toInt.toNat (hM p 15 0) (kX p lo)).1 : Nat) : Int)) → Q (some (.int z)) p2) (k3 : ∀ z : Int32, ∀ p2 : xH, (hNt T_fe p p2) → (0 ≤ xi) → (xi < (rI p 13 7).toInt) → ((hsB (rI p 13 7).toInt.toNat (hM p 15 0) (kX p lo)).1 ≤ 7) → (z.toInt = ((ix (hsB (rI p 13 7).toInt.toNat (hM p 15 0) (kX p lo)).2 xi.toNat : Nat) : Int) - 1) → Q (some (.int z)) p2) : hP ro n d (11, 2, 1, 1, k145) 0 (lv_args 0 [.ref 0, .int x]) [] p Q := by
  subst hx
  refine hp_id (ls := [(0, .ref 0), (1, .int x)]) ?_
  refine hp_s (pc' := 1) (st' := [.int x]) rfl rfl rfl ?_
  refine hp_s (pc' := 2) (st' := [.int (-1), .int x]) rfl rfl rfl ?_
  refine hp_ic (pc' := 5) (t := 19) (a := x.toInt) (b := (-1)) rfl rfl rfl rfl (by decide) (fun (h1 : x.toInt = (-1)) => ?_) (fun (h2 : ¬ (x.toInt = (-1))) => ?_)
  ·
    refine hp_s (pc' := 20) (st' := [.ref 0]) rfl rfl rfl ?_
    refine hp_getr (k := 9) (w := .ref 44) (pc' := 23) rfl rfl rfl rfl rfl ?_
    have r0 : (rI p 13 7).toInt = ((rI p 13 7).toInt.toNat : Int) := by omega
    have r1 : (rI p 13 7).toInt.toNat ≤ 7 := by omega
    refine hp_cv (r := 44) (o := 10) (kd := 1) (as := []) (rest := []) (pc' := 26) rfl rfl rfl rfl rfl rfl rfl rfl rfl (fun d1 => ?_)
    refine s_findFewest lo (rI p 13 7).toInt.toNat (by first | assumption | omega) (by first | assumption | omega) (by first | assumption | omega) (by first | assumption | omega) ?_ ?_
    ·
      intro p1 h3 h4 h5 h6
      refine hp_id (st := [.int 1]) ?_
      refine hp_go (pc' := 32) rfl rfl rfl ?_
      refine hp_s (pc' := 33) (st' := [.int x]) rfl rfl rfl ?_
      refine hp_s (pc' := 34) (st' := [.int (-1), .int x]) rfl rfl rfl ?_
      refine hp_ic (pc' := 37) (t := 47) (a := x.toInt) (b := (-1)) rfl rfl rfl rfl (by decide) (fun (h7 : x.toInt ≠ (-1)) => ?_) (fun (h8 : ¬ (x.toInt ≠ (-1))) => ?_)
      ·
        refine hp_s (pc' := 48) (st' := [.ref 0]) rfl rfl rfl ?_
        refine hp_getr (k := 9) (w := .ref 44) (pc' := 51) rfl rfl rfl rfl rfl ?_
        refine hp_getr (k := 5) (w := .ref 48) (pc' := 54) rfl rfl rfl rfl rfl ?_
        refine hp_s (pc' := 55) (st' := [.int x, .ref 48]) rfl rfl rfl ?_
        refine hp_ld (t := 100) (v := (rI p1 48 x.toInt.toNat)) rfl (.inl rfl) rfl rfl rfl ?_
        intro (g1a : 0 ≤ x.toInt) (g1b : x.toInt < 7)
        refine hp_ri rfl rfl ?_
        first | exact k2 _ _ h3 (by omega) h5 h4 | exact k3 _ _ h3 (by omega) (by omega) h5 (h6 _ (by omega))
      ·
        refine hp_s (pc' := 38) (st' := [.ref 0]) rfl rfl rfl ?_
        refine hp_getr (k := 9) (w := .ref 44) (pc' := 41) rfl rfl rfl rfl rfl ?_
        refine hp_get (k := 6) (pc' := 44) (v := (rI p1 44 6)) rfl rfl rfl rfl rfl rfl ?_
        refine hp_go (pc' := 56) rfl rfl rfl ?_
        refine hp_ri rfl rfl ?_
        first | exact k2 _ _ h3 (by omega) h5 h4 | exact k3 _ _ h3 (by omega) (by omega) h5 (h6 _ (by omega))
    ·
      intro p2 h9 h10
      refine hp_id (st := [.int 0]) ?_
      refine hp_go (pc' := 29) rfl rfl rfl ?_
      refine hp_s (pc' := 31) (st' := [.int (-2)]) rfl rfl rfl ?_
      refine hp_ri rfl rfl ?_
      exact k1 _ h9 (by omega) h10
  ·
    refine hp_s (pc' := 6) (st' := [.ref 0]) rfl rfl rfl ?_
    refine hp_getr (k := 4) (w := .ref 13) (pc' := 9) rfl rfl rfl rfl rfl ?_
    refine hp_s (pc' := 10) (st' := [.int x, .ref 13]) rfl rfl rfl ?_
    refine hp_cv (r := 13) (o := 1) (kd := 1) (as := [.int x]) (rest := []) (pc' := 13) rfl rfl rfl rfl rfl rfl rfl rfl rfl (fun d2 => ?_)
    refine s_has (xi := x.toInt) rfl ?_ ?_
    ·
      intro h11 h12
      refine hp_id (st := [.int 1]) ?_
      refine hp_go (pc' := 19) rfl rfl rfl ?_
      refine hp_s (pc' := 20) (st' := [.ref 0]) rfl rfl rfl ?_
      refine hp_getr (k := 9) (w := .ref 44) (pc' := 23) rfl rfl rfl rfl rfl ?_
      have r0 : (rI p 13 7).toInt = ((rI p 13 7).toInt.toNat : Int) := by omega
      have r1 : (rI p 13 7).toInt.toNat ≤ 7 := by omega
      refine hp_cv (r := 44) (o := 10) (kd := 1) (as := []) (rest := []) (pc' := 26) rfl rfl rfl rfl rfl rfl rfl rfl rfl (fun d3 => ?_)
      refine s_findFewest lo (rI p 13 7).toInt.toNat (by first | assumption | omega) (by first | assumption | omega) (by first | assumption | omega) (by first | assumption | omega) ?_ ?_
      ·
        intro p3 h13 h14 h15 h16
        refine hp_id (st := [.int 1]) ?_
        refine hp_go (pc' := 32) rfl rfl rfl ?_
        refine hp_s (pc' := 33) (st' := [.int x]) rfl rfl rfl ?_
        refine hp_s (pc' := 34) (st' := [.int (-1), .int x]) rfl rfl rfl ?_
        refine hp_ic (pc' := 37) (t := 47) (a := x.toInt) (b := (-1)) rfl rfl rfl rfl (by decide) (fun (h17 : x.toInt ≠ (-1)) => ?_) (fun (h18 : ¬ (x.toInt ≠ (-1))) => ?_)
        ·
          refine hp_s (pc' := 48) (st' := [.ref 0]) rfl rfl rfl ?_
          refine hp_getr (k := 9) (w := .ref 44) (pc' := 51) rfl rfl rfl rfl rfl ?_
          refine hp_getr (k := 5) (w := .ref 48) (pc' := 54) rfl rfl rfl rfl rfl ?_
          refine hp_s (pc' := 55) (st' := [.int x, .ref 48]) rfl rfl rfl ?_
          refine hp_ld (t := 100) (v := (rI p3 48 x.toInt.toNat)) rfl (.inl rfl) rfl rfl rfl ?_
          intro (g2a : 0 ≤ x.toInt) (g2b : x.toInt < 7)
          refine hp_ri rfl rfl ?_
          first | exact k2 _ _ h13 (by omega) h15 h14 | exact k3 _ _ h13 (by omega) (by omega) h15 (h16 _ (by omega))
        ·
          refine hp_s (pc' := 38) (st' := [.ref 0]) rfl rfl rfl ?_
          refine hp_getr (k := 9) (w := .ref 44) (pc' := 41) rfl rfl rfl rfl rfl ?_
          refine hp_get (k := 6) (pc' := 44) (v := (rI p3 44 6)) rfl rfl rfl rfl rfl rfl ?_
          refine hp_go (pc' := 56) rfl rfl rfl ?_
          refine hp_ri rfl rfl ?_
          first | exact k2 _ _ h13 (by omega) h15 h14 | exact k3 _ _ h13 (by omega) (by omega) h15 (h16 _ (by omega))
      ·
        intro p4 h19 h20
        refine hp_id (st := [.int 0]) ?_
        refine hp_go (pc' := 29) rfl rfl rfl ?_
        refine hp_s (pc' := 31) (st' := [.int (-2)]) rfl rfl rfl ?_
        refine hp_ri rfl rfl ?_
        exact k1 _ h19 (by omega) h20
    ·
      intro h21
      refine hp_id (st := [.int 0]) ?_
      refine hp_go (pc' := 16) rfl rfl rfl ?_
      refine hp_s (pc' := 18) (st' := [.int (-2000000000)]) rfl rfl rfl ?_
      refine hp_ri rfl rfl ?_
      exact k0 (by omega) (by assumption)
