/-! contracts of methods, walked -/
/-- alike each to each -/
def KD (P : Nat → Nat → Prop) (S : Nat) (z : Int32) : Prop := ∀ n, n < S → bI z n = true → ∀ k, k < S → bI z k = true → n ≠ k → P n k
theorem KD_e {P P' : Nat → Nat → Prop} {S : Nat} (h : ∀ x y, x < S → y < S → (P x y ↔ P' x y)) (z : Int32) : KD P S z ↔ KD P' S z :=
  ⟨fun g n a b k c d e => (h n k a c).mp (g n a b k c d e), fun g n a b k c d e => (h n k a c).mpr (g n a b k c d e)⟩
/-- the greatest set so far, of like ones the first -/
def hGr (K : Int32 → Prop) : Nat → Int32 → Prop
  | 0, g => g = 0
  | n + 1, g => ∃ g0, hGr K n g0 ∧ (((bcn g0).toInt < (bcn (Int32.ofNat (n + 1))).toInt ∧ K (Int32.ofNat (n + 1)) ∧ g = Int32.ofNat (n + 1)) ∨ (¬ ((bcn g0).toInt < (bcn (Int32.ofNat (n + 1))).toInt ∧ K (Int32.ofNat (n + 1))) ∧ g = g0))
theorem hGr_one {K K' : Int32 → Prop} (hK : ∀ z, K z ↔ K' z) : ∀ {n : Nat} {g g' : Int32}, hGr K n g → hGr K' n g' → g = g'
  | 0, _, _, h, h' => Eq.trans h (Eq.symm h')
  | n + 1, g, g', ⟨a, h1, h2⟩, ⟨b, h1', h2'⟩ => by
    have e := hGr_one hK h1 h1'
    subst e
    rcases h2 with ⟨u1, u2, u3⟩ | ⟨u1, u2⟩ <;> rcases h2' with ⟨w1, w2, w3⟩ | ⟨w1, w2⟩
    · rw [u3, w3]
    · exact absurd ⟨u1, (hK _).mp u2⟩ w1
    · exact absurd ⟨w1, (hK _).mpr w2⟩ u1
    · rw [u2, w2]
theorem hGr_b {K : Int32 → Prop} : ∀ {n : Nat} {g : Int32}, n < 2000000000 → hGr K n g → 0 ≤ g.toInt ∧ g.toInt ≤ n
  | 0, g, _, h => by
    have h : g = 0 := h
    rw [h]; decide
  | n + 1, g, hn, ⟨a, h1, h2⟩ => by
    have := hGr_b (by omega) h1
    rcases h2 with ⟨-, -, e⟩ | ⟨-, e⟩
    · rw [e, Int32.toInt_ofNat_of_lt (by omega)]; omega
    · rw [e]; omega
theorem ev_t : ∀ s : Nat, s < 8 → (((1 : Int32) <<< (Int32.ofNat s &&& 31)) - 1).toInt = 2 ^ s - 1 ∧ ((1 : Int32) <<< (Int32.ofNat s &&& 31)).toInt = 2 ^ s := by decide +kernel
theorem ev_v {q : Int32} (h0 : 0 ≤ q.toInt) (h7 : q.toInt ≤ 7) : (((1 : Int32) <<< (q &&& 31)) - 1).toInt = 2 ^ q.toInt.toNat - 1 ∧ ((1 : Int32) <<< (q &&& 31)).toInt = 2 ^ q.toInt.toNat := by
  have e := i_k (q := q) (k := q.toInt.toNat) (by omega)
  have := ev_t q.toInt.toNat (by omega)
  rw [← e] at this
  exact this
theorem pw7 : ∀ s : Nat, s < 8 → (2 : Int) ^ s ≤ 128 ∧ (1 : Int) ≤ 2 ^ s := by decide
theorem bI_hi {z : Int32} {S : Nat} (hS : S ≤ 7) (h0 : 0 ≤ z.toInt) (h : z.toInt < 2 ^ S) : ∀ k, S ≤ k → k < 32 → bI z k = false := fun k hk hk2 => by
  have hp := (pw7 S (by omega)).1
  obtain ⟨v, hv, rfl⟩ := i_on h0 (by omega)
  rw [Int32.toInt_ofNat_of_lt (by omega)] at h
  rw [bI_nat hk2]
  refine Nat.testBit_lt_two_pow (Nat.lt_of_lt_of_le (m := 2 ^ S) ?_ (Nat.pow_le_pow_right (by decide) hk))
  have e : ((2 ^ S : Nat) : Int) = 2 ^ S := by push_cast; rfl
  omega
def okX (P : Nat → Nat → Prop) (S n : Nat) (z : Int32) : Prop := ∀ k, k < S → bI z k = true → n ≠ k → P n k
/-- as the one asks it, as the other -/
theorem okX_x {P : Nat → Nat → Prop} {S n : Nat} {z r X : Int32} (hX : X.toInt = n) (hn : n < S) (hS : S ≤ 7) (hr : hLk P S n r) (hi : ∀ k, S ≤ k → k < 32 → bI z k = false) (hb : bI z n = true) : z &&& (r ^^^ (-1)) = (1 : Int32) <<< (X &&& 31) ↔ okX P S n z := by
  constructor
  · intro h k hk hz hne
    have := congrArg (fun u => bI u k) h
    rw [bI_and, bI_no r (by omega), bI_p hX (by omega) (by omega), hz, Bool.true_and, decide_eq_false (Ne.symm hne), Bool.not_eq_false'] at this
    exact ((hr k (by omega)).mp this).2.2
  · intro h
    apply bI_ext
    intro k hk
    rw [bI_and, bI_no r hk, bI_p hX (by omega) hk]
    by_cases g : k = n
    · subst g
      rw [hb, decide_eq_true rfl]
      cases h2 : bI r k with
      | false => rfl
      | true => exact absurd rfl ((hr k hk).mp h2).2.1
    · rw [decide_eq_false g]
      cases hz : bI z k with
      | false => rfl
      | true =>
        have hkS : k < S := by
          rcases Nat.lt_or_ge k S with q | q
          · exact q
          · rw [hi k q hk] at hz; cases hz
        rw [(hr k hk).mpr ⟨hkS, Ne.symm g, h k hkS hz (Ne.symm g)⟩]
        rfl
theorem okX_m {P : Nat → Nat → Prop} {S n : Nat} {z r X : Int32} (hX : X.toInt = n) (hn : n < S) (hS : S ≤ 7) (hr : hLk P S n r) (hi : ∀ k, S ≤ k → k < 32 → bI z k = false) : z &&& ((1 : Int32) <<< (X &&& 31) ^^^ (-1)) &&& (r ^^^ (-1)) = 0 ↔ okX P S n z := by
  rw [bI_zero]
  constructor
  · intro h k hk hz hne
    have := h k (by omega)
    rw [bI_and, bI_and, bI_no r (by omega), bI_no _ (by omega), bI_p hX (by omega) (by omega), hz, decide_eq_false (Ne.symm hne), Bool.not_false, Bool.true_and, Bool.true_and, Bool.not_eq_false'] at this
    exact ((hr k (by omega)).mp this).2.2
  · intro h k hk
    rw [bI_and, bI_and, bI_no r hk, bI_no _ hk, bI_p hX (by omega) hk]
    by_cases g : k = n
    · rw [decide_eq_true g, Bool.not_true, Bool.and_false, Bool.false_and]
    · rw [decide_eq_false g]
      cases hz : bI z k with
      | false => rfl
      | true =>
        have hkS : k < S := by
          rcases Nat.lt_or_ge k S with q | q
          · exact q
          · rw [hi k q hk] at hz; cases hz
        rw [(hr k hk).mpr ⟨hkS, Ne.symm g, h k hkS hz (Ne.symm g)⟩]
        rfl
theorem KD_iff {P : Nat → Nat → Prop} {S : Nat} {z : Int32} : KD P S z ↔ ∀ n, n < S → bI z n = true → okX P S n z := Iff.rfl
theorem b_if {b : Bool} (h : (if b then (1 : Int) else 0) = 1) : b = true := by cases b; exact absurd h (by decide); rfl
theorem b_if0 {b : Bool} (h : (if b then (1 : Int) else 0) ≠ 1) : b = false := by cases b; rfl; exact absurd rfl h
theorem s_everybody {ro : List (List Int32)} {n d : Nat} {p : xH} {Q : Option Value → xH → Prop}  (pre0 : 0 ≤ (rI p 13 7).toInt) (pre1 : (rI p 13 7).toInt ≤ 7) (k0 : ∀ z : Int32, (z.toInt = 2 ^ (rI p 13 7).toInt.toNat - 1) → (z = ((1 : Int32) <<< (rI p 13 7 &&& 31)) - 1) → Q (some (.int z)) p) : hP ro n d (1, 1, 1, 1, k8) 0 (lv_args 0 [.ref 13]) [] p Q := by
  refine hp_id (ls := [(0, .ref 13)]) ?_
  have hv := ev_v pre0 pre1
  refine hp_s (pc' := 1) (st' := [.int 1]) rfl rfl rfl ?_
  refine hp_s (pc' := 2) (st' := [.ref 13, .int 1]) rfl rfl rfl ?_
  refine hp_get (k := 7) (pc' := 5) (v := (rI p 13 7)) rfl rfl rfl rfl rfl rfl ?_
  refine hp_z (pc' := 6) (e := 1 <<< ((rI p 13 7) &&& 31)) (st' := []) rfl rfl rfl ?_
  intro z1 hz1
  refine hp_s (pc' := 7) (st' := [.int 1, .int z1]) rfl rfl rfl ?_
  refine hp_z (pc' := 8) (e := z1 - 1) (st' := []) rfl rfl rfl ?_
  intro z2 hz2
  have ez2 := i_sub hz2 (show z1.toInt = z1.toInt from rfl) (show (1 : Int32).toInt = 1 from by decide)
  refine hp_ri rfl rfl ?_
  first | (exact k0 _ (by first | assumption | (subst_vars; exact hv.1) | (subst_vars; rfl)) (by first | assumption | (subst_vars; exact hv.1) | (subst_vars; rfl))) | (exfalso; omega)
theorem lp_55 {ro : List (List Int32)} {d : Nat} {Q : Option Value → xH → Prop} {P : Nat → Nat → Prop} {z : Int32} {p : xH} (g0 : 0 ≤ (rI p 13 7).toInt) (g1 : (rI p 13 7).toInt ≤ 7) (hR : ∀ n, n < (rI p 13 7).toInt.toNat → hLk P (rI p 13 7).toInt.toNat n (rI p 33 n)) (hi : ∀ k, (rI p 13 7).toInt.toNat ≤ k → k < 32 → bI z k = false) (K1 : KD P (rI p 13 7).toInt.toNat z → Q (some (.int 1)) p) (K0 : ¬ KD P (rI p 13 7).toInt.toNat z → Q (some (.int 0)) p) : ∀ (n : Nat) (x : Int32), (0 ≤ x.toInt) → (x.toInt ≤ (rI p 13 7).toInt) → (∀ j, j < x.toInt.toNat → bI z j = true → okX P (rI p 13 7).toInt.toNat j z) → hP ro n d (4, 3, 1, 2, k55) 2 [(2, .int x), (0, .ref 32), (1, .int z)] [] p Q := by
  intro n
  induction n with
  | zero => intros; exact hp_0
  | succ n ih =>
    intro x h1 h2 hok
    refine hp_s1 (pc' := 3) (st' := [.int x]) rfl rfl rfl ?_
    refine hp_s (pc' := 4) (st' := [.ref 32, .int x]) rfl rfl rfl ?_
    refine hp_getr (k := 0) (w := .ref 13) (pc' := 7) rfl rfl rfl rfl rfl ?_
    refine hp_get (k := 7) (pc' := 10) (v := (rI p 13 7)) rfl rfl rfl rfl rfl rfl ?_
    refine hp_ic (pc' := 13) (t := 46) (a := x.toInt) (b := (rI p 13 7).toInt) rfl rfl rfl rfl rfl (fun (h1 : (rI p 13 7).toInt ≤ x.toInt) => ?_) (fun (h2 : ¬ ((rI p 13 7).toInt ≤ x.toInt)) => ?_)
    ·
      refine hp_s (pc' := 47) (st' := [.int 1]) rfl rfl rfl ?_
      refine hp_rb rfl rfl (fun _ => ?_)
      exact K1 (KD_iff.mpr (fun j hj hb => hok j (by omega) hb))
    ·
      refine hp_s (pc' := 14) (st' := [.int z]) rfl rfl rfl ?_
      refine hp_s (pc' := 15) (st' := [.int x, .int z]) rfl rfl rfl ?_
      refine hp_z (pc' := 16) (e := z >>> (x &&& 31)) (st' := []) rfl rfl rfl ?_
      intro z1 hz1
      refine hp_s (pc' := 17) (st' := [.int 1, .int z1]) rfl rfl rfl ?_
      refine hp_z (pc' := 18) (e := z1 &&& 1) (st' := []) rfl rfl rfl ?_
      intro z2 hz2
      have hbit : z2.toInt = if bI z x.toInt.toNat then 1 else 0 := by rw [hz2, hz1]; exact bI_at z (by omega) (by omega)
      refine hp_s (pc' := 19) (st' := [.int 1, .int z2]) rfl rfl rfl ?_
      refine hp_ic (pc' := 22) (t := 40) (a := z2.toInt) (b := 1) rfl rfl rfl rfl (by decide) (fun (h3 : z2.toInt ≠ 1) => ?_) (fun (h4 : ¬ (z2.toInt ≠ 1)) => ?_)
      ·
        refine hp_inc (L := fun z_ => [(2, .int z_), (0, .ref 32), (1, .int z)]) (pc' := 43) rfl rfl rfl (fun _ => rfl) rfl ?_
        intro z3 hz3
        have ez3 := i_add hz3 (show x.toInt = x.toInt from rfl) (show (Int32.ofInt 1).toInt = 1 from by decide)
        refine hp_go (pc' := 2) rfl rfl rfl ?_
        refine ih z3 (by omega) (by omega) (fun j hj hb => ?_)
        by_cases g : j < x.toInt.toNat
        · exact hok j g hb
        · have ej : j = x.toInt.toNat := by omega
          rw [ej] at hb ⊢
          rw [hb, if_pos rfl] at hbit; omega
      ·
        refine hp_s (pc' := 23) (st' := [.int z]) rfl rfl rfl ?_
        refine hp_s (pc' := 24) (st' := [.ref 32, .int z]) rfl rfl rfl ?_
        refine hp_getr (k := 2) (w := .ref 33) (pc' := 27) rfl rfl rfl rfl rfl ?_
        refine hp_s (pc' := 28) (st' := [.int x, .ref 33, .int z]) rfl rfl rfl ?_
        refine hp_ld (t := 100) (v := (rI p 33 x.toInt.toNat)) rfl (.inl rfl) rfl rfl rfl ?_
        intro (g1a : 0 ≤ x.toInt) (g1b : x.toInt < 7)
        refine hp_s (pc' := 30) (st' := [.int (-1), .int (rI p 33 x.toInt.toNat), .int z]) rfl rfl rfl ?_
        refine hp_z (pc' := 31) (e := (rI p 33 x.toInt.toNat) ^^^ (-1)) (st' := [.int z]) rfl rfl rfl ?_
        intro z4 hz4
        refine hp_z (pc' := 32) (e := z &&& z4) (st' := []) rfl rfl rfl ?_
        intro z5 hz5
        refine hp_s (pc' := 33) (st' := [.int 1, .int z5]) rfl rfl rfl ?_
        refine hp_s (pc' := 34) (st' := [.int x, .int 1, .int z5]) rfl rfl rfl ?_
        refine hp_z (pc' := 35) (e := 1 <<< (x &&& 31)) (st' := [.int z5]) rfl rfl rfl ?_
        intro z6 hz6
        refine hp_ic (pc' := 38) (t := 40) (a := z5.toInt) (b := z6.toInt) rfl rfl rfl rfl rfl (fun (h5 : z5.toInt = z6.toInt) => ?_) (fun (h6 : ¬ (z5.toInt = z6.toInt)) => ?_)
        ·
          refine hp_inc (L := fun z_ => [(2, .int z_), (0, .ref 32), (1, .int z)]) (pc' := 43) rfl rfl rfl (fun _ => rfl) rfl ?_
          intro z7 hz7
          have ez7 := i_add hz7 (show x.toInt = x.toInt from rfl) (show (Int32.ofInt 1).toInt = 1 from by decide)
          refine hp_go (pc' := 2) rfl rfl rfl ?_
          refine ih z7 (by omega) (by omega) (fun j hj hb => ?_)
          by_cases g : j < x.toInt.toNat
          · exact hok j g hb
          · have ej : j = x.toInt.toNat := by omega
            rw [ej] at hb ⊢
            exact (okX_x (X := x) (by omega) (by omega) (by omega) (hR _ (by omega)) hi hb).mp (by rw [← hz4, ← hz5, ← hz6]; exact Int32.toInt_inj.mp (by omega))
        ·
          refine hp_s (pc' := 39) (st' := [.int 0]) rfl rfl rfl ?_
          refine hp_rb rfl rfl (fun _ => ?_)
          refine K0 (fun g => ?_)
          have hb := b_if (hbit.symm.trans (by omega))
          have q := (okX_x (X := x) (by omega) (by omega) (by omega) (hR _ (by omega)) hi hb).mpr (g _ (by omega) hb)
          rw [← hz4, ← hz5, ← hz6] at q
          exact absurd (congrArg Int32.toInt q) (by omega)
theorem s_isKindX {ro : List (List Int32)} {n d : Nat} {p : xH} {Q : Option Value → xH → Prop} (P : Nat → Nat → Prop) {z : Int32} {zi : Int} (hz : z.toInt = zi) (pre0 : 0 ≤ (rI p 13 7).toInt) (pre1 : (rI p 13 7).toInt ≤ 7) (pre2 : ∀ n, n < (rI p 13 7).toInt.toNat → hLk P (rI p 13 7).toInt.toNat n (rI p 33 n)) (pre3 : ∀ k, (rI p 13 7).toInt.toNat ≤ k → k < 32 → bI z k = false) (k0 : (KD P (rI p 13 7).toInt.toNat z) → Q (some (.int (1))) p) (k1 : (¬ KD P (rI p 13 7).toInt.toNat z) → Q (some (.int (0))) p) : hP ro n d (4, 3, 1, 2, k55) 0 (lv_args 0 [.ref 32, .int z]) [] p Q := by
  subst hz
  refine hp_id (ls := [(0, .ref 32), (1, .int z)]) ?_
  refine hp_s (pc' := 1) (st' := [.int 0]) rfl rfl rfl ?_
  refine hp_s (pc' := 2) (ls' := [(2, .int 0), (0, .ref 32), (1, .int z)]) (st' := []) rfl rfl rfl ?_
  exact lp_55 (P := P) (z := z) pre0 pre1 pre2 pre3 k0 k1 n 0 (by decide) (by have h00 : (0 : Int32).toInt = 0 := (by decide); omega) (fun j hj => absurd hj (by rw [i_ofz]; omega))
