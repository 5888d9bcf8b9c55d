/-! contracts of methods, walked -/
abbrev T_ah : List (Nat × Nat) := [(66, 15), (66, 16), (66, 17), (66, 18), (66, 19), (77, 9999), (86, 9999)]
abbrev T_hm : List (Nat × Nat) := [(66, 15), (66, 16), (66, 17), (66, 18), (66, 19), (77, 9999), (86, 9999), (87, 9999)]
def kM (p : xH) (lo : Option (List yN)) : Nat → Nat → Nat → Nat → Prop := hC (rI p 67) (rI p 67 22) (rI p 67 21) lo
theorem kM_e {p p2 : xH} {lo : Option (List yN)} (e : ∀ j, rI p2 67 j = rI p 67 j) : kM p2 lo = kM p lo := by
  unfold kM
  rw [show rI p2 67 = rI p 67 from funext e]
theorem hC_c {f : Nat → Int32} {m e : Int32} {lo : Option (List yN)} {i a j b : Nat} : hC f m e lo i a j b ↔ hC f m e lo j b i a := ⟨fun h => lAl_c (Int32.add_comm _ _) h, fun h => lAl_c (Int32.add_comm _ _) h⟩
/-- the table at one place -/
def kmR (p : xH) (C : Nat → Nat → Nat → Nat → Prop) (n q a b : Nat) : Prop := ((rI p 86 (343 * n + 49 * a + 7 * q + b)).toInt = 1 ∧ C q b n a) ∨ ((rI p 86 (343 * n + 49 * a + 7 * q + b)).toInt = 0 ∧ ¬ C q b n a)
/-- filled up to here -/
def hkD (p : xH) (C : Nat → Nat → Nat → Nat → Prop) (P Q K : Nat) : Prop := ∀ n q a b, q < n → n < 7 → a < 7 → b < 7 → (n < P ∨ (n = P ∧ (q < Q ∨ (q = Q ∧ 7 * a + b < K)))) → kmR p C n q a b
theorem hkD_s {p p2 : xH} {C : Nat → Nat → Nat → Nat → Prop} {P Q K K2 : Nat} {A B i : Nat} {v : Int32} (hw : hW p) (hP7 : P < 7) (hQ : Q < P) (hA : A < 7) (hB7 : B < 7) (hK : K = 7 * A + B) (hi : i = 343 * P + 49 * A + 7 * Q + B) (e : p2 = wV p 86 i (.int v)) (hv : (v.toInt = 1 ∧ C Q B P A) ∨ (v.toInt = 0 ∧ ¬ C Q B P A)) (hK2 : K2 = K + 1) (h : hkD p C P Q K) : hkD p2 C P Q K2 := fun n q a b h1 h2 h3 h4 h5 => by
  unfold kmR
  rw [e, rI_w hw (by show _ < 2401; omega)]
  by_cases g : 343 * n + 49 * a + 7 * q + b = i
  · have e1 : n = P := by omega
    have e2 : a = A := by omega
    have e3 : q = Q := by omega
    have e4 : b = B := by omega
    rw [if_pos g, e1, e2, e3, e4]
    exact hv
  · rw [if_neg g]
    refine h n q a b h1 h2 h3 h4 ?_
    rcases h5 with h5 | ⟨h5, h6 | ⟨h6, h7⟩⟩
    · exact Or.inl h5
    · exact Or.inr ⟨h5, Or.inl h6⟩
    · by_cases g2 : 7 * a + b = K
      · exfalso; have : a = A := by omega
        have : b = B := by omega
        subst_vars; exact g rfl
      · exact Or.inr ⟨h5, Or.inr ⟨h6, by omega⟩⟩
theorem hkD_q {p : xH} {C : Nat → Nat → Nat → Nat → Prop} {P Q Q2 : Nat} (hQ : Q2 = Q + 1) (h : hkD p C P Q 49) : hkD p C P Q2 0 := fun n q a b h1 h2 h3 h4 h5 => h n q a b h1 h2 h3 h4 (by
  rcases h5 with h5 | ⟨h5, h6 | ⟨h6, h7⟩⟩
  · exact Or.inl h5
  · by_cases g : q = Q
    · exact Or.inr ⟨h5, Or.inr ⟨g, by omega⟩⟩
    · exact Or.inr ⟨h5, Or.inl (by omega)⟩
  · exact absurd h7 (Nat.not_lt_zero _))
theorem hkD_p {p : xH} {C : Nat → Nat → Nat → Nat → Prop} {P P2 Q : Nat} (hQ : P ≤ Q) (hP2 : P2 = P + 1) (h : hkD p C P Q 0) : hkD p C P2 0 0 := fun n q a b h1 h2 h3 h4 h5 => h n q a b h1 h2 h3 h4 (by
  rcases h5 with h5 | ⟨h5, h6 | ⟨h6, h7⟩⟩
  · by_cases g : n = P
    · exact Or.inr ⟨g, Or.inl (by omega)⟩
    · exact Or.inl (by omega)
  · exact absurd h6 (Nat.not_lt_zero _)
  · exact absurd h7 (Nat.not_lt_zero _))
theorem hkD_e {p p2 : xH} {C : Nat → Nat → Nat → Nat → Prop} {P Q K : Nat} (e : ∀ j, rI p2 86 j = rI p 86 j) (h : hkD p C P Q K) : hkD p2 C P Q K := fun n q a b h1 h2 h3 h4 h5 => by
  have k := h n q a b h1 h2 h3 h4 h5
  unfold kmR at k ⊢
  rw [e]; exact k
theorem s_clashAt {ro : List (List Int32)} {n d : Nat} {p : xH} {Q : Option Value → xH → Prop} {x : Int32} {xi : Int} {a : Int32} {ai : Int} {y : Int32} {yi : Int} {b : Int32} {bi : Int} (hx : x.toInt = xi) (ha : a.toInt = ai) (hy : y.toInt = yi) (hb : b.toInt = bi) (pre0 : 0 ≤ xi) (pre1 : xi < 7) (pre2 : 0 ≤ ai) (pre3 : ai < 7) (pre4 : 0 ≤ yi) (pre5 : yi < 7) (pre6 : 0 ≤ bi) (pre7 : bi < 7) (k0 : ∀ z : Int32, (z.toInt = 343 * xi + 49 * ai + 7 * yi + bi) → Q (some (.int z)) p) : hP ro n d (12, 4, 0, 1, k227) 0 (lv_args 0 [.int x, .int a, .int y, .int b]) [] p Q := by
  subst hx
  subst ha
  subst hy
  subst hb
  refine hp_id (ls := [(0, .int x), (1, .int a), (2, .int y), (3, .int b)]) ?_
  refine hp_s (pc' := 1) (st' := [.int x]) rfl rfl rfl ?_
  refine hp_s (pc' := 3) (st' := [.int 7, .int x]) rfl rfl rfl ?_
  refine hp_z (pc' := 4) (e := x * 7) (st' := []) rfl rfl rfl ?_
  intro z1 hz1
  have ez1 := i_mul hz1 (show x.toInt = x.toInt from rfl) (show (7 : Int32).toInt = 7 from by decide)
  refine hp_s (pc' := 5) (st' := [.int a, .int z1]) rfl rfl rfl ?_
  refine hp_z (pc' := 6) (e := z1 + a) (st' := []) rfl rfl rfl ?_
  intro z2 hz2
  have ez2 := i_add hz2 (show z1.toInt = z1.toInt from rfl) (show a.toInt = a.toInt from rfl)
  refine hp_s (pc' := 8) (st' := [.int 7, .int z2]) rfl rfl rfl ?_
  refine hp_z (pc' := 9) (e := z2 * 7) (st' := []) rfl rfl rfl ?_
  intro z3 hz3
  have ez3 := i_mul hz3 (show z2.toInt = z2.toInt from rfl) (show (7 : Int32).toInt = 7 from by decide)
  refine hp_s (pc' := 10) (st' := [.int y, .int z3]) rfl rfl rfl ?_
  refine hp_z (pc' := 11) (e := z3 + y) (st' := []) rfl rfl rfl ?_
  intro z4 hz4
  have ez4 := i_add hz4 (show z3.toInt = z3.toInt from rfl) (show y.toInt = y.toInt from rfl)
  refine hp_s (pc' := 13) (st' := [.int 7, .int z4]) rfl rfl rfl ?_
  refine hp_z (pc' := 14) (e := z4 * 7) (st' := []) rfl rfl rfl ?_
  intro z5 hz5
  have ez5 := i_mul hz5 (show z4.toInt = z4.toInt from rfl) (show (7 : Int32).toInt = 7 from by decide)
  refine hp_s (pc' := 15) (st' := [.int b, .int z5]) rfl rfl rfl ?_
  refine hp_z (pc' := 16) (e := z5 + b) (st' := []) rfl rfl rfl ?_
  intro z6 hz6
  have ez6 := i_add hz6 (show z5.toInt = z5.toInt from rfl) (show b.toInt = b.toInt from rfl)
  refine hp_ri rfl rfl ?_
  first | (exact k0 _ (by first | assumption | omega)) | (exfalso; omega)
theorem lp_229c {ro : List (List Int32)} {d : Nat} {Q : Option Value → xH → Prop} {p0 : xH} {lo : Option (List yN)} {S : Nat} {x y : Int32} {N : Nat} (g0 : lMo p0 lo) (gS : (rI p0 66 6).toInt = (S : Int)) (hS7 : S ≤ 7) (g67 : ∀ j, 0 ≤ (rI p0 67 j).toInt ∧ (rI p0 67 j).toInt < 64) (x0 : 0 ≤ x.toInt) (xS : x.toInt < S) (y0 : 0 ≤ y.toInt) (yx : y.toInt < x.toInt) (K : ∀ m : Nat, m ≤ N → ∀ (k a b : Int32) (p2 : xH), (hNt T_ah p0 p2) → (hkD p2 (kM p0 lo) x.toInt.toNat y.toInt.toNat 49) → hP ro m d (12, 6, 1, 0, k229) 109 [(3, .int k), (4, .int a), (5, .int b), (2, .int y), (1, .int x), (0, .ref 66)] [] p2 Q) : ∀ (n : Nat) (hn : n ≤ N) (k : Int32) (a : Int32) (b : Int32) (p : xH), (0 ≤ k.toInt) → (k.toInt ≤ 49) → (hNt T_ah p0 p) → (hkD p (kM p0 lo) x.toInt.toNat y.toInt.toNat k.toInt.toNat) → hP ro n d (12, 6, 1, 0, k229) 19 [(3, .int k), (4, .int a), (5, .int b), (2, .int y), (1, .int x), (0, .ref 66)] [] p Q := by
  intro n
  induction n with
  | zero => intros; exact hp_0
  | succ n ih =>
    intro hn k a b p hk1 hk2 hN hD
    have hlo : lMo p lo := lMo_nt hN rfl (fun _ => rfl) g0
    have e67 : ∀ j, rI p 67 j = rI p0 67 j := fun j => hN.int (r := 67) rfl
    have eK : kM p lo = kM p0 lo := kM_e e67
    have e6 : (rI p 66 6).toInt = (S : Int) := by rw [hN.int (r := 66) (k := 6) rfl]; exact gS
    have h67 : ∀ j, 0 ≤ (rI p 67 j).toInt ∧ (rI p 67 j).toInt < 64 := fun j => by rw [e67]; exact g67 j
    refine hp_s1 (pc' := 20) (st' := [.int k]) rfl rfl rfl ?_
    refine hp_s (pc' := 22) (st' := [.int 49, .int k]) rfl rfl rfl ?_
    refine hp_ic (pc' := 25) (t := 109) (a := k.toInt) (b := 49) rfl rfl rfl rfl (by decide) (fun (h1 : 49 ≤ k.toInt) => ?_) (fun (h2 : ¬ (49 ≤ k.toInt)) => ?_)
    ·
      exact K n (by omega) _ _ _ p hN (by rw [show k.toInt.toNat = 49 by omega] at hD; exact hD)
    ·
      refine hp_s (pc' := 26) (st' := [.int k]) rfl rfl rfl ?_
      refine hp_s (pc' := 28) (st' := [.int 7, .int k]) rfl rfl rfl ?_
      refine hp_z (pc' := 29) (e := k / 7) (st' := []) rfl rfl rfl ?_
      intro z1 hz1
      have ez1 := i_div hz1 (show k.toInt = k.toInt from rfl) (show (7 : Int32).toInt = 7 from by decide) (by decide)
      refine hp_s (pc' := 31) (ls' := [(4, .int z1), (3, .int k), (5, .int b), (2, .int y), (1, .int x), (0, .ref 66)]) (st' := []) rfl rfl rfl ?_
      refine hp_s (pc' := 32) (st' := [.int k]) rfl rfl rfl ?_
      refine hp_s (pc' := 34) (st' := [.int 7, .int k]) rfl rfl rfl ?_
      refine hp_z (pc' := 35) (e := k - k / 7 * 7) (st' := []) rfl rfl rfl ?_
      intro z2 hz2
      have ez2 := i_rem hz2 (show k.toInt = k.toInt from rfl) (show (7 : Int32).toInt = 7 from by decide) (by decide)
      refine hp_s (pc' := 37) (ls' := [(5, .int z2), (4, .int z1), (3, .int k), (2, .int y), (1, .int x), (0, .ref 66)]) (st' := []) rfl rfl rfl ?_
      refine hp_s (pc' := 38) (st' := [.ref 66]) rfl rfl rfl ?_
      refine hp_getr (k := 31) (w := .ref 86) (pc' := 41) rfl rfl rfl rfl rfl ?_
      refine hp_s (pc' := 42) (st' := [.int x, .ref 86]) rfl rfl rfl ?_
      refine hp_s (pc' := 44) (st' := [.int z1, .int x, .ref 86]) rfl rfl rfl ?_
      refine hp_s (pc' := 45) (st' := [.int y, .int z1, .int x, .ref 86]) rfl rfl rfl ?_
      refine hp_s (pc' := 47) (st' := [.int z2, .int y, .int z1, .int x, .ref 86]) rfl rfl rfl ?_
      refine hp_cs (kd := 0) (as := [.int x, .int z1, .int y, .int z2]) (rest := [.ref 86]) (pc' := 50) rfl rfl rfl rfl rfl rfl rfl (fun d1 => ?_)
      refine s_clashAt (xi := x.toInt) rfl (ai := (k.toInt / 7)) (by omega) (yi := y.toInt) rfl (bi := (k.toInt % 7)) (by omega) (by first | assumption | omega) (by first | assumption | omega) (by first | assumption | omega) (by first | assumption | omega) (by first | assumption | omega) (by first | assumption | omega) (by first | assumption | omega) (by first | assumption | omega) ?_
      intro y1 h3
      refine hp_id (st := [.int y1, .ref 86]) ?_
      refine hp_s (pc' := 51) (st' := [.ref 66, .int y1, .ref 86]) rfl rfl rfl ?_
      refine hp_s (pc' := 52) (st' := [.ref 66, .ref 66, .int y1, .ref 86]) rfl rfl rfl ?_
      refine hp_getr (k := 0) (w := .ref 67) (pc' := 55) rfl rfl rfl rfl rfl ?_
      refine hp_s (pc' := 56) (st' := [.int x, .ref 67, .ref 66, .int y1, .ref 86]) rfl rfl rfl ?_
      refine hp_ld (t := 100) (v := (rI p 67 x.toInt.toNat)) rfl (.inl rfl) rfl rfl rfl ?_
      intro (g1a : 0 ≤ x.toInt) (g1b : x.toInt < 23)
      refine hp_s (pc' := 59) (st' := [.int z1, .int (rI p 67 x.toInt.toNat), .ref 66, .int y1, .ref 86]) rfl rfl rfl ?_
      refine hp_s (pc' := 60) (st' := [.int 1, .int z1, .int (rI p 67 x.toInt.toNat), .ref 66, .int y1, .ref 86]) rfl rfl rfl ?_
      refine hp_z (pc' := 61) (e := z1 - 1) (st' := [.int (rI p 67 x.toInt.toNat), .ref 66, .int y1, .ref 86]) rfl rfl rfl ?_
      intro z3 hz3
      have ez3 := i_sub hz3 (show z1.toInt = (k.toInt / 7) from (by omega)) (show (1 : Int32).toInt = 1 from by decide)
      have ef1 : z3 = hc (k.toInt.toNat / 7) := hc_of (by omega) (by omega)
      refine hp_cs (kd := 0) (as := [.int (rI p 67 x.toInt.toNat), .int z3]) (rest := [.ref 66, .int y1, .ref 86]) (pc' := 64) rfl rfl rfl rfl rfl rfl rfl (fun d2 => ?_)
      refine s_seenWithM (xi := (rI p 67 x.toInt.toNat).toInt) rfl (yi := z3.toInt) rfl ?_
      intro y2 h4
      have f1 : y2 = hSn (rI p 67 x.toInt.toNat) (hc (k.toInt.toNat / 7)) := by rw [h4, ef1]
      refine hp_id (st := [.int y2, .ref 66, .int y1, .ref 86]) ?_
      refine hp_s (pc' := 65) (st' := [.ref 66, .int y2, .ref 66, .int y1, .ref 86]) rfl rfl rfl ?_
      refine hp_getr (k := 0) (w := .ref 67) (pc' := 68) rfl rfl rfl rfl rfl ?_
      refine hp_s (pc' := 69) (st' := [.int y, .ref 67, .int y2, .ref 66, .int y1, .ref 86]) rfl rfl rfl ?_
      refine hp_ld (t := 100) (v := (rI p 67 y.toInt.toNat)) rfl (.inl rfl) rfl rfl rfl ?_
      intro (g2a : 0 ≤ y.toInt) (g2b : y.toInt < 23)
      refine hp_s (pc' := 72) (st' := [.int z2, .int (rI p 67 y.toInt.toNat), .int y2, .ref 66, .int y1, .ref 86]) rfl rfl rfl ?_
      refine hp_s (pc' := 73) (st' := [.int 1, .int z2, .int (rI p 67 y.toInt.toNat), .int y2, .ref 66, .int y1, .ref 86]) rfl rfl rfl ?_
      refine hp_z (pc' := 74) (e := z2 - 1) (st' := [.int (rI p 67 y.toInt.toNat), .int y2, .ref 66, .int y1, .ref 86]) rfl rfl rfl ?_
      intro z4 hz4
      have ez4 := i_sub hz4 (show z2.toInt = (k.toInt % 7) from (by omega)) (show (1 : Int32).toInt = 1 from by decide)
      have ef2 : z4 = hc (k.toInt.toNat % 7) := hc_of (by omega) (by omega)
      refine hp_cs (kd := 0) (as := [.int (rI p 67 y.toInt.toNat), .int z4]) (rest := [.int y2, .ref 66, .int y1, .ref 86]) (pc' := 77) rfl rfl rfl rfl rfl rfl rfl (fun d3 => ?_)
      refine s_seenWithM (xi := (rI p 67 y.toInt.toNat).toInt) rfl (yi := z4.toInt) rfl ?_
      intro y3 h5
      have f2 : y3 = hSn (rI p 67 y.toInt.toNat) (hc (k.toInt.toNat % 7)) := by rw [h5, ef2]
      refine hp_id (st := [.int y3, .int y2, .ref 66, .int y1, .ref 86]) ?_
      refine hp_s (pc' := 79) (st' := [.int z1, .int y3, .int y2, .ref 66, .int y1, .ref 86]) rfl rfl rfl ?_
      refine hp_s (pc' := 80) (st' := [.int 1, .int z1, .int y3, .int y2, .ref 66, .int y1, .ref 86]) rfl rfl rfl ?_
      refine hp_z (pc' := 81) (e := z1 - 1) (st' := [.int y3, .int y2, .ref 66, .int y1, .ref 86]) rfl rfl rfl ?_
      intro z5 hz5
      have ez5 := i_sub hz5 (show z1.toInt = (k.toInt / 7) from (by omega)) (show (1 : Int32).toInt = 1 from by decide)
      have ef3 : z5 = hc (k.toInt.toNat / 7) := hc_of (by omega) (by omega)
      refine hp_cs (kd := 0) (as := [.int z5]) (rest := [.int y3, .int y2, .ref 66, .int y1, .ref 86]) (pc' := 84) rfl rfl rfl rfl rfl rfl rfl (fun d4 => ?_)
      refine s_hatBit (xi := z5.toInt) rfl (by first | assumption | omega) ?_
      intro y4 h6
      have f3 : y4 = hWn (hc (k.toInt.toNat / 7)) := by rw [h6, ef3]
      refine hp_id (st := [.int y4, .int y3, .int y2, .ref 66, .int y1, .ref 86]) ?_
      refine hp_s (pc' := 86) (st' := [.int z2, .int y4, .int y3, .int y2, .ref 66, .int y1, .ref 86]) rfl rfl rfl ?_
      refine hp_s (pc' := 87) (st' := [.int 1, .int z2, .int y4, .int y3, .int y2, .ref 66, .int y1, .ref 86]) rfl rfl rfl ?_
      refine hp_z (pc' := 88) (e := z2 - 1) (st' := [.int y4, .int y3, .int y2, .ref 66, .int y1, .ref 86]) rfl rfl rfl ?_
      intro z6 hz6
      have ez6 := i_sub hz6 (show z2.toInt = (k.toInt % 7) from (by omega)) (show (1 : Int32).toInt = 1 from by decide)
      have ef4 : z6 = hc (k.toInt.toNat % 7) := hc_of (by omega) (by omega)
      refine hp_cs (kd := 0) (as := [.int z6]) (rest := [.int y4, .int y3, .int y2, .ref 66, .int y1, .ref 86]) (pc' := 91) rfl rfl rfl rfl rfl rfl rfl (fun d5 => ?_)
      refine s_hatBit (xi := z6.toInt) rfl (by first | assumption | omega) ?_
      intro y5 h7
      have f4 : y5 = hWn (hc (k.toInt.toNat % 7)) := by rw [h7, ef4]
      refine hp_id (st := [.int y5, .int y4, .int y3, .int y2, .ref 66, .int y1, .ref 86]) ?_
      refine hp_z (pc' := 92) (e := y4 + y5) (st' := [.int y3, .int y2, .ref 66, .int y1, .ref 86]) rfl rfl rfl ?_
      intro z7 hz7
      have ez7 := i_add hz7 (show y4.toInt = y4.toInt from rfl) (show y5.toInt = y5.toInt from rfl)
      refine hp_s (pc' := 93) (st' := [.ref 66, .int z7, .int y3, .int y2, .ref 66, .int y1, .ref 86]) rfl rfl rfl ?_
      refine hp_getr (k := 0) (w := .ref 67) (pc' := 96) rfl rfl rfl rfl rfl ?_
      refine hp_s (pc' := 98) (st' := [.int 22, .ref 67, .int z7, .int y3, .int y2, .ref 66, .int y1, .ref 86]) rfl rfl rfl ?_
      refine hp_ld (t := 100) (v := (rI p 67 22)) rfl (.inl rfl) rfl rfl rfl ?_
      intro (g3a : 0 ≤ (22 : Int32).toInt) (g3b : (22 : Int32).toInt < 23)
      have bf1 : 0 ≤ y2.toInt ∧ y2.toInt < 64 := by rw [f1]; exact hSn_b (h67 _).1 (h67 _).2 (by rw [hc_I (by omega)]; omega)
      obtain ⟨bf1a, bf1b⟩ := bf1
      have bf2 : 0 ≤ y3.toInt ∧ y3.toInt < 64 := by rw [f2]; exact hSn_b (h67 _).1 (h67 _).2 (by rw [hc_I (by omega)]; omega)
      obtain ⟨bf2a, bf2b⟩ := bf2
      refine hp_cv (r := 66) (o := 12) (kd := 1) (as := [.int y2, .int y3, .int z7, .int (rI p 67 22)]) (rest := [.int y1, .ref 86]) (pc' := 102) rfl rfl rfl rfl rfl rfl rfl rfl rfl (fun d6 => ?_)
      refine s_areAlike lo (xi := y2.toInt) rfl (yi := y3.toInt) rfl (hi := z7.toInt) rfl (mi := (rI p 67 22).toInt) rfl (by first | assumption | omega) (by first | assumption | omega) (by first | assumption | omega) (by first | assumption | omega) (by first | assumption | omega) ?_ ?_
      ·
        intro p1 h8 h9
        have hcl : kM p0 lo y.toInt.toNat (k.toInt.toNat % 7) x.toInt.toNat (k.toInt.toNat / 7) := by
          rw [← eK]
          unfold kM
          rw [hC_c]
          show lAl lo (bcn (hSn (rI p 67 x.toInt.toNat) (hc (k.toInt.toNat / 7)) ^^^ hSn (rI p 67 y.toInt.toNat) (hc (k.toInt.toNat % 7)))) (hSn (rI p 67 x.toInt.toNat) (hc (k.toInt.toNat / 7))) (hSn (rI p 67 y.toInt.toNat) (hc (k.toInt.toNat % 7))) (hWn (hc (k.toInt.toNat / 7)) + hWn (hc (k.toInt.toNat % 7))) (rI p 67 22) (rI p 67 21)
          rw [← f1, ← f2, ← f3, ← f4, ← hz7]
          exact h9
        refine hp_id (st := [.int 1, .int y1, .ref 86]) ?_
        refine hp_st (t := 101) rfl (.inr rfl) rfl rfl ?_
        intro p2 wp2 (p2a : 0 ≤ y1.toInt) (p2b : y1.toInt < 2401) ep2
        refine hp_inc (L := fun z_ => [(3, .int z_), (5, .int z2), (4, .int z1), (2, .int y), (1, .int x), (0, .ref 66)]) (pc' := 106) rfl rfl rfl (fun _ => rfl) rfl ?_
        intro z8 hz8
        have ez8 := i_add hz8 (show k.toInt = k.toInt from rfl) (show (Int32.ofInt 1).toInt = 1 from by decide)
        refine hp_go (pc' := 19) rfl rfl rfl ?_
        refine hp_ls (ls' := [(3, .int z8), (4, .int z1), (5, .int z2), (2, .int y), (1, .int x), (0, .ref 66)]) rfl rfl ⟨rfl, rfl, rfl, rfl, rfl, rfl, trivial⟩ ?_
        refine ih (by omega) z8 z1 z2 p2 (by omega) (by omega) (by rw [ep2]; exact (hNt.w (hNt.trans hN (h8.up (by decide))) rfl)) (hkD_s (A := (k.toInt.toNat / 7)) (B := (k.toInt.toNat % 7)) wp2 (by omega) (by omega) (by omega) (by omega) (by omega) (by omega) ep2 (Or.inl ⟨by decide, hcl⟩) (by omega) (hkD_e (fun j => h8.int (r := 86) rfl) hD))
      ·
        intro p3 h10 h11
        have hcl : ¬ kM p0 lo y.toInt.toNat (k.toInt.toNat % 7) x.toInt.toNat (k.toInt.toNat / 7) := by
          rw [← eK]
          unfold kM
          rw [hC_c]
          show ¬ lAl lo (bcn (hSn (rI p 67 x.toInt.toNat) (hc (k.toInt.toNat / 7)) ^^^ hSn (rI p 67 y.toInt.toNat) (hc (k.toInt.toNat % 7)))) (hSn (rI p 67 x.toInt.toNat) (hc (k.toInt.toNat / 7))) (hSn (rI p 67 y.toInt.toNat) (hc (k.toInt.toNat % 7))) (hWn (hc (k.toInt.toNat / 7)) + hWn (hc (k.toInt.toNat % 7))) (rI p 67 22) (rI p 67 21)
          rw [← f1, ← f2, ← f3, ← f4, ← hz7]
          exact h11
        refine hp_id (st := [.int 0, .int y1, .ref 86]) ?_
        refine hp_st (t := 101) rfl (.inr rfl) rfl rfl ?_
        intro p4 wp4 (p4a : 0 ≤ y1.toInt) (p4b : y1.toInt < 2401) ep4
        refine hp_inc (L := fun z_ => [(3, .int z_), (5, .int z2), (4, .int z1), (2, .int y), (1, .int x), (0, .ref 66)]) (pc' := 106) rfl rfl rfl (fun _ => rfl) rfl ?_
        intro z9 hz9
        have ez9 := i_add hz9 (show k.toInt = k.toInt from rfl) (show (Int32.ofInt 1).toInt = 1 from by decide)
        refine hp_go (pc' := 19) rfl rfl rfl ?_
        refine hp_ls (ls' := [(3, .int z9), (4, .int z1), (5, .int z2), (2, .int y), (1, .int x), (0, .ref 66)]) rfl rfl ⟨rfl, rfl, rfl, rfl, rfl, rfl, trivial⟩ ?_
        refine ih (by omega) z9 z1 z2 p4 (by omega) (by omega) (by rw [ep4]; exact (hNt.w (hNt.trans hN (h10.up (by decide))) rfl)) (hkD_s (A := (k.toInt.toNat / 7)) (B := (k.toInt.toNat % 7)) wp4 (by omega) (by omega) (by omega) (by omega) (by omega) (by omega) ep4 (Or.inr ⟨by decide, hcl⟩) (by omega) (hkD_e (fun j => h10.int (r := 86) rfl) hD))
theorem lp_229b {ro : List (List Int32)} {d : Nat} {Q : Option Value → xH → Prop} {p0 : xH} {lo : Option (List yN)} {S : Nat} {x : Int32} {N : Nat} (g0 : lMo p0 lo) (gS : (rI p0 66 6).toInt = (S : Int)) (hS7 : S ≤ 7) (g67 : ∀ j, 0 ≤ (rI p0 67 j).toInt ∧ (rI p0 67 j).toInt < 64) (x0 : 0 ≤ x.toInt) (xS : x.toInt < S) (K : ∀ m : Nat, m ≤ N → ∀ (y k a b : Int32) (p2 : xH), (hNt T_ah p0 p2) → (hkD p2 (kM p0 lo) (x.toInt.toNat + 1) 0 0) → hP ro m d (12, 6, 1, 0, k229) 115 [(2, .int y), (3, .int k), (4, .int a), (5, .int b), (1, .int x), (0, .ref 66)] [] p2 Q) : ∀ (n : Nat) (hn : n ≤ N) (y : Int32) (k : Int32) (a : Int32) (b : Int32) (p : xH), (0 ≤ y.toInt) → (y.toInt ≤ x.toInt) → (hNt T_ah p0 p) → (hkD p (kM p0 lo) x.toInt.toNat y.toInt.toNat 0) → hP ro n d (12, 6, 1, 0, k229) 12 [(2, .int y), (3, .int k), (4, .int a), (5, .int b), (1, .int x), (0, .ref 66)] [] p Q := by
  intro n
  induction n with
  | zero => intros; exact hp_0
  | succ n ih =>
    intro hn y k a b p hy1 hy2 hN hD
    have hlo : lMo p lo := lMo_nt hN rfl (fun _ => rfl) g0
    have e67 : ∀ j, rI p 67 j = rI p0 67 j := fun j => hN.int (r := 67) rfl
    have eK : kM p lo = kM p0 lo := kM_e e67
    have e6 : (rI p 66 6).toInt = (S : Int) := by rw [hN.int (r := 66) (k := 6) rfl]; exact gS
    have h67 : ∀ j, 0 ≤ (rI p 67 j).toInt ∧ (rI p 67 j).toInt < 64 := fun j => by rw [e67]; exact g67 j
    refine hp_s1 (pc' := 13) (st' := [.int y]) rfl rfl rfl ?_
    refine hp_s (pc' := 14) (st' := [.int x, .int y]) rfl rfl rfl ?_
    refine hp_ic (pc' := 17) (t := 115) (a := y.toInt) (b := x.toInt) rfl rfl rfl rfl rfl (fun (h1 : x.toInt ≤ y.toInt) => ?_) (fun (h2 : ¬ (x.toInt ≤ y.toInt)) => ?_)
    ·
      exact K n (by omega) _ _ _ _ p hN (hkD_p (by omega) rfl hD)
    ·
      refine hp_s (pc' := 18) (st' := [.int 0]) rfl rfl rfl ?_
      refine hp_s (pc' := 19) (ls' := [(3, .int 0), (2, .int y), (4, .int a), (5, .int b), (1, .int x), (0, .ref 66)]) (st' := []) rfl rfl rfl ?_
      refine hp_ls (ls' := [(3, .int 0), (4, .int a), (5, .int b), (2, .int y), (1, .int x), (0, .ref 66)]) rfl rfl ⟨rfl, rfl, rfl, rfl, rfl, rfl, trivial⟩ ?_
      refine lp_229c (p0 := p) (lo := lo) (N := n) (S := S) (x := x) (y := y) hlo e6 hS7 h67 x0 xS hy1 (by omega) (fun m0 hm0 k a b pe j1 j2 => ?_) n (Nat.le_refl _) 0 a b p (by decide) (by decide) (hNt.refl _ _) (by rw [i_ofz, eK]; exact hD)
      refine hp_inc (L := fun z_ => [(2, .int z_), (3, .int k), (4, .int a), (5, .int b), (1, .int x), (0, .ref 66)]) (pc' := 112) rfl rfl rfl (fun _ => rfl) rfl ?_
      intro z1 hz1
      have ez1 := i_add hz1 (show y.toInt = y.toInt from rfl) (show (Int32.ofInt 1).toInt = 1 from by decide)
      refine hp_go (pc' := 12) rfl rfl rfl ?_
      rw [eK] at j2
      exact hp_le hm0 (ih (by omega) z1 k a b pe (by omega) (by omega) (hN.trans j1) (by rw [show z1.toInt.toNat = y.toInt.toNat + 1 by omega]; exact hkD_q rfl j2))
theorem lp_229a {ro : List (List Int32)} {d : Nat} {Q : Option Value → xH → Prop} {p0 : xH} {lo : Option (List yN)} {S : Nat} (g0 : lMo p0 lo) (gS : (rI p0 66 6).toInt = (S : Int)) (hS7 : S ≤ 7) (g67 : ∀ j, 0 ≤ (rI p0 67 j).toInt ∧ (rI p0 67 j).toInt < 64) (K : ∀ p2 : xH, hNt T_ah p0 p2 → hkD p2 (kM p0 lo) S 0 0 → Q none p2) : ∀ (n : Nat) (x : Int32) (y : Int32) (k : Int32) (a : Int32) (b : Int32) (p : xH), (0 ≤ x.toInt) → (x.toInt ≤ S) → (hNt T_ah p0 p) → (hkD p (kM p0 lo) x.toInt.toNat 0 0) → hP ro n d (12, 6, 1, 0, k229) 2 [(1, .int x), (2, .int y), (3, .int k), (4, .int a), (5, .int b), (0, .ref 66)] [] p Q := by
  intro n
  induction n with
  | zero => intros; exact hp_0
  | succ n ih =>
    intro x y k a b p hx1 hx2 hN hD
    have hlo : lMo p lo := lMo_nt hN rfl (fun _ => rfl) g0
    have e67 : ∀ j, rI p 67 j = rI p0 67 j := fun j => hN.int (r := 67) rfl
    have eK : kM p lo = kM p0 lo := kM_e e67
    have e6 : (rI p 66 6).toInt = (S : Int) := by rw [hN.int (r := 66) (k := 6) rfl]; exact gS
    have h67 : ∀ j, 0 ≤ (rI p 67 j).toInt ∧ (rI p 67 j).toInt < 64 := fun j => by rw [e67]; exact g67 j
    refine hp_s1 (pc' := 3) (st' := [.int x]) rfl rfl rfl ?_
    refine hp_s (pc' := 4) (st' := [.ref 66, .int x]) rfl rfl rfl ?_
    refine hp_get (k := 6) (pc' := 7) (v := (rI p 66 6)) rfl rfl rfl rfl rfl rfl ?_
    refine hp_ic (pc' := 10) (t := 121) (a := x.toInt) (b := (rI p 66 6).toInt) rfl rfl rfl rfl rfl (fun (h1 : (rI p 66 6).toInt ≤ x.toInt) => ?_) (fun (h2 : ¬ ((rI p 66 6).toInt ≤ x.toInt)) => ?_)
    ·
      refine hp_rv rfl rfl ?_
      exact K p hN (by rw [show x.toInt.toNat = S by omega] at hD; exact hD)
    ·
      refine hp_s (pc' := 11) (st' := [.int 0]) rfl rfl rfl ?_
      refine hp_s (pc' := 12) (ls' := [(2, .int 0), (1, .int x), (3, .int k), (4, .int a), (5, .int b), (0, .ref 66)]) (st' := []) rfl rfl rfl ?_
      refine hp_ls (ls' := [(2, .int 0), (3, .int k), (4, .int a), (5, .int b), (1, .int x), (0, .ref 66)]) rfl rfl ⟨rfl, rfl, rfl, rfl, rfl, rfl, trivial⟩ ?_
      refine lp_229b (p0 := p) (lo := lo) (N := n) (S := S) (x := x) hlo e6 hS7 h67 hx1 (by omega) (fun m1 hm1 y k a b pe j1 j2 => ?_) n (Nat.le_refl _) 0 k a b p (by decide) (by have h00 : (0 : Int32).toInt = 0 := (by decide); omega) (hNt.refl _ _) (by rw [i_ofz, eK]; exact hD)
      refine hp_inc (L := fun z_ => [(1, .int z_), (2, .int y), (3, .int k), (4, .int a), (5, .int b), (0, .ref 66)]) (pc' := 118) rfl rfl rfl (fun _ => rfl) rfl ?_
      intro z1 hz1
      have ez1 := i_add hz1 (show x.toInt = x.toInt from rfl) (show (Int32.ofInt 1).toInt = 1 from by decide)
      refine hp_go (pc' := 2) rfl rfl rfl ?_
      rw [eK] at j2
      exact hp_le hm1 (ih z1 y k a b pe (by omega) (by omega) (hN.trans j1) (by rw [show z1.toInt.toNat = x.toInt.toNat + 1 by omega]; exact j2))
theorem s_asksHats {ro : List (List Int32)} {n d : Nat} {p : xH} {Q : Option Value → xH → Prop} (lo : Option (List yN))  (pre0 : lMo p lo) (pre1 : ∀ j, 0 ≤ (rI p 67 j).toInt ∧ (rI p 67 j).toInt < 64) (pre2 : ∀ j, -1 ≤ (rI p 71 j).toInt ∧ (rI p 71 j).toInt < 6) (pre3 : 0 ≤ (rI p 66 6).toInt) (pre4 : (rI p 66 6).toInt ≤ 7) (k0 : ∀ p2 : xH, (hNt T_ah p p2) → (hkD p2 (kM p lo) (rI p 66 6).toInt.toNat 0 0) → Q none p2) : hP ro n d (12, 6, 1, 0, k229) 0 (lv_args 0 [.ref 66]) [] p Q := by
  refine hp_id (ls := [(0, .ref 66)]) ?_
  refine hp_s (pc' := 1) (st' := [.int 0]) rfl rfl rfl ?_
  refine hp_s (pc' := 2) (ls' := [(1, .int 0), (0, .ref 66)]) (st' := []) rfl rfl rfl ?_
  refine hp_ls (ls' := [(1, .int 0), (2, .int 0), (3, .int 0), (4, .int 0), (5, .int 0), (0, .ref 66)]) rfl rfl ⟨rfl, rfl, trivial⟩ ?_
  exact lp_229a (p0 := p) (lo := lo) (S := (rI p 66 6).toInt.toNat) pre0 (by omega) (by omega) pre1 (fun p2 u1 u2 => k0 p2 u1 u2) n 0 (0 : Int32) (0 : Int32) (0 : Int32) (0 : Int32) p (by decide) (by have h00 : (0 : Int32).toInt = 0 := (by decide); omega) (hNt.refl _ _) (fun m q a b u1 u2 u3 u4 u5 => absurd u5 (by rw [i_ofz]; omega))
