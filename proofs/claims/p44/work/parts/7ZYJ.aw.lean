/-! contracts of methods, walked -/
abbrev T_al : List (Nat × Nat) := [(50, 9999), (51, 9999), (49, 5)]
abbrev T_so : List (Nat × Nat) := [(51, 9999), (49, 5)]
theorem xor_z {x y z : Int32} (h : z = x ^^^ y) : z.toInt = 0 ↔ x = y := by
  constructor
  · intro g
    have e : x ^^^ y = 0 := by rw [← h]; exact Int32.toInt_inj.mp (by rw [g]; decide)
    refine bI_ext (fun k hk => ?_)
    have q := bI_zero.mp e k hk
    rw [bI_xor] at q
    cases h1 : bI x k <;> cases h2 : bI y k <;> rw [h1, h2] at q <;> first | rfl | cases q
  · intro g
    rw [h, g, Int32.xor_self]
    decide
abbrev sBX (p : xH) (h : Int) : Nat → Nat → Prop := sBar (rI p 4) (rI p 5) (rI p 6) h
theorem s_bar {ro : List (List Int32)} {n d : Nat} {p : xH} {Q : Option Value → xH → Prop} {x : Int32} {xi : Int} {y : Int32} {yi : Int} {h : Int32} {hi : Int} (hx : x.toInt = xi) (hy : y.toInt = yi) (hh : h.toInt = hi)  (k0 : (sBX p hi xi.toNat yi.toNat) → Q (some (.int (1))) p) (k1 : (¬ sBX p hi xi.toNat yi.toNat) → Q (some (.int (0))) p) : hP ro n d (7, 5, 1, 2, k84) 0 (lv_args 0 [.ref 49, .int x, .int y, .int h]) [] p Q := by
  subst hx
  subst hy
  subst hh
  refine hp_id (ls := [(0, .ref 49), (1, .int x), (2, .int y), (3, .int h)]) ?_
  refine hp_s (pc' := 1) (st' := [.ref 49]) rfl rfl rfl ?_
  refine hp_getr (k := 0) (w := .ref 1) (pc' := 4) rfl rfl rfl rfl rfl ?_
  refine hp_getr (k := 4) (w := .ref 6) (pc' := 7) rfl rfl rfl rfl rfl ?_
  refine hp_s (pc' := 8) (st' := [.int x, .ref 6]) rfl rfl rfl ?_
  refine hp_ld (t := 100) (v := (rI p 6 x.toInt.toNat)) rfl (.inl rfl) rfl rfl rfl ?_
  intro (g1a : 0 ≤ x.toInt) (g1b : x.toInt < 10)
  refine hp_s (pc' := 10) (st' := [.ref 49, .int (rI p 6 x.toInt.toNat)]) rfl rfl rfl ?_
  refine hp_getr (k := 0) (w := .ref 1) (pc' := 13) rfl rfl rfl rfl rfl ?_
  refine hp_getr (k := 4) (w := .ref 6) (pc' := 16) rfl rfl rfl rfl rfl ?_
  refine hp_s (pc' := 17) (st' := [.int y, .ref 6, .int (rI p 6 x.toInt.toNat)]) rfl rfl rfl ?_
  refine hp_ld (t := 100) (v := (rI p 6 y.toInt.toNat)) rfl (.inl rfl) rfl rfl rfl ?_
  intro (g2a : 0 ≤ y.toInt) (g2b : y.toInt < 10)
  refine hp_z (pc' := 19) (e := (rI p 6 x.toInt.toNat) ^^^ (rI p 6 y.toInt.toNat)) (st' := []) rfl rfl rfl ?_
  intro z1 hz1
  refine hp_s (pc' := 21) (ls' := [(4, .int z1), (0, .ref 49), (1, .int x), (2, .int y), (3, .int h)]) (st' := []) rfl rfl rfl ?_
  refine hp_s (pc' := 23) (st' := [.int z1]) rfl rfl rfl ?_
  refine hp_cs (kd := 0) (as := [.int z1]) (rest := []) (pc' := 26) rfl rfl rfl rfl rfl rfl rfl (fun d1 => ?_)
  refine s_bitCount (xi := z1.toInt) rfl ?_
  intro y1 h1
  have hbc : y1.toInt = (bcn (rI p 6 x.toInt.toNat ^^^ rI p 6 y.toInt.toNat)).toInt := by rw [h1, hz1]
  have hzz := xor_z hz1
  refine hp_id (st := [.int y1]) ?_
  refine hp_s (pc' := 27) (st' := [.int h, .int y1]) rfl rfl rfl ?_
  refine hp_ic (pc' := 30) (t := 32) (a := y1.toInt) (b := h.toInt) rfl rfl rfl rfl rfl (fun (h2 : y1.toInt ≤ h.toInt) => ?_) (fun (h3 : ¬ (y1.toInt ≤ h.toInt)) => ?_)
  ·
    refine hp_s (pc' := 33) (st' := [.ref 49]) rfl rfl rfl ?_
    refine hp_getr (k := 0) (w := .ref 1) (pc' := 36) rfl rfl rfl rfl rfl ?_
    refine hp_getr (k := 2) (w := .ref 4) (pc' := 39) rfl rfl rfl rfl rfl ?_
    refine hp_s (pc' := 40) (st' := [.int x, .ref 4]) rfl rfl rfl ?_
    refine hp_ld (t := 100) (v := (rI p 4 x.toInt.toNat)) rfl (.inl rfl) rfl rfl rfl ?_
    intro (g3a : 0 ≤ x.toInt) (g3b : x.toInt < 10)
    refine hp_s (pc' := 42) (st' := [.ref 49, .int (rI p 4 x.toInt.toNat)]) rfl rfl rfl ?_
    refine hp_getr (k := 0) (w := .ref 1) (pc' := 45) rfl rfl rfl rfl rfl ?_
    refine hp_getr (k := 2) (w := .ref 4) (pc' := 48) rfl rfl rfl rfl rfl ?_
    refine hp_s (pc' := 49) (st' := [.int y, .ref 4, .int (rI p 4 x.toInt.toNat)]) rfl rfl rfl ?_
    refine hp_ld (t := 100) (v := (rI p 4 y.toInt.toNat)) rfl (.inl rfl) rfl rfl rfl ?_
    intro (g4a : 0 ≤ y.toInt) (g4b : y.toInt < 10)
    refine hp_ic (pc' := 53) (t := 55) (a := (rI p 4 x.toInt.toNat).toInt) (b := (rI p 4 y.toInt.toNat).toInt) rfl rfl rfl rfl rfl (fun (h4 : (rI p 4 x.toInt.toNat).toInt = (rI p 4 y.toInt.toNat).toInt) => ?_) (fun (h5 : ¬ ((rI p 4 x.toInt.toNat).toInt = (rI p 4 y.toInt.toNat).toInt)) => ?_)
    ·
      refine hp_s (pc' := 57) (st' := [.int z1]) rfl rfl rfl ?_
      refine hp_if (pc' := 60) (t := 81) (a := z1.toInt) rfl rfl rfl rfl (fun (h6 : z1.toInt ≠ 0) => ?_) (fun (h7 : ¬ (z1.toInt ≠ 0)) => ?_)
      ·
        refine hp_s (pc' := 82) (st' := [.int 1]) rfl rfl rfl ?_
        refine hp_go (pc' := 86) rfl rfl rfl ?_
        refine hp_rb rfl rfl (fun _ => ?_)
        exact k0 (Or.inr ⟨Int32.toInt_inj.mp (by omega), Or.inl (fun g => absurd (hzz.mpr g) (by omega))⟩)
      ·
        refine hp_s (pc' := 61) (st' := [.ref 49]) rfl rfl rfl ?_
        refine hp_getr (k := 0) (w := .ref 1) (pc' := 64) rfl rfl rfl rfl rfl ?_
        refine hp_getr (k := 3) (w := .ref 5) (pc' := 67) rfl rfl rfl rfl rfl ?_
        refine hp_s (pc' := 68) (st' := [.int x, .ref 5]) rfl rfl rfl ?_
        refine hp_ld (t := 100) (v := (rI p 5 x.toInt.toNat)) rfl (.inl rfl) rfl rfl rfl ?_
        intro (g5a : 0 ≤ x.toInt) (g5b : x.toInt < 10)
        refine hp_s (pc' := 70) (st' := [.ref 49, .int (rI p 5 x.toInt.toNat)]) rfl rfl rfl ?_
        refine hp_getr (k := 0) (w := .ref 1) (pc' := 73) rfl rfl rfl rfl rfl ?_
        refine hp_getr (k := 3) (w := .ref 5) (pc' := 76) rfl rfl rfl rfl rfl ?_
        refine hp_s (pc' := 77) (st' := [.int y, .ref 5, .int (rI p 5 x.toInt.toNat)]) rfl rfl rfl ?_
        refine hp_ld (t := 100) (v := (rI p 5 y.toInt.toNat)) rfl (.inl rfl) rfl rfl rfl ?_
        intro (g6a : 0 ≤ y.toInt) (g6b : y.toInt < 10)
        refine hp_ic (pc' := 81) (t := 85) (a := (rI p 5 x.toInt.toNat).toInt) (b := (rI p 5 y.toInt.toNat).toInt) rfl rfl rfl rfl rfl (fun (h8 : (rI p 5 x.toInt.toNat).toInt = (rI p 5 y.toInt.toNat).toInt) => ?_) (fun (h9 : ¬ ((rI p 5 x.toInt.toNat).toInt = (rI p 5 y.toInt.toNat).toInt)) => ?_)
        ·
          refine hp_s (pc' := 86) (st' := [.int 0]) rfl rfl rfl ?_
          refine hp_rb rfl rfl (fun _ => ?_)
          refine k1 (fun g => ?_)
          rcases g with g | ⟨-, g | g⟩
          · omega
          · exact g (hzz.mp (by omega))
          · exact g (Int32.toInt_inj.mp (by omega))
        ·
          refine hp_s (pc' := 82) (st' := [.int 1]) rfl rfl rfl ?_
          refine hp_go (pc' := 86) rfl rfl rfl ?_
          refine hp_rb rfl rfl (fun _ => ?_)
          exact k0 (Or.inr ⟨Int32.toInt_inj.mp (by omega), Or.inr (fun g => absurd (congrArg Int32.toInt g) (by omega))⟩)
    ·
      refine hp_s (pc' := 54) (st' := [.int 0]) rfl rfl rfl ?_
      refine hp_rb rfl rfl (fun _ => ?_)
      refine k1 (fun g => ?_)
      rcases g with g | ⟨g, -⟩
      · omega
      · have q := congrArg Int32.toInt g; omega
  ·
    refine hp_s (pc' := 31) (st' := [.int 1]) rfl rfl rfl ?_
    refine hp_rb rfl rfl (fun _ => ?_)
    exact k0 (Or.inl (by omega))
def alK (p : xH) (N : Nat) (B : Nat → Nat → Prop) : Prop := (rI p 1 5).toInt = (N : Int) ∧ N ≤ 10 ∧ (∀ i j, B i j → B j i) ∧ ∀ n, n < N → ∀ c, c < 32 → (bI (rI p 50 n) c = true ↔ c < N ∧ B n c)
/-- who lies in which set -/
def alS (p : xH) (N : Nat) (l : List Nat) : Prop := ∀ c, c < N → ∀ i, i < 32 → (bI (rI p 51 c) i = true ↔ i < l.length ∧ ix l i = c)
theorem alS_c {p p2 : xH} {N : Nat} {l : List Nat} {c : Nat} {z w s : Int32} (hw : hW p) (hN : N ≤ 10) (hc : c < N) (hs : s.toInt = (l.length : Int)) (hl : l.length < 10) (e : p2 = wV p 51 c (.int z)) (hz : z = rI p 51 c ||| w) (hww : w = (1 : Int32) <<< (s &&& 31)) (h : alS p N l) : alS p2 N (c :: l) := fun d hd i hi => by
  rw [e, rI_w hw (by show _ < 10; omega), List.length_cons]
  by_cases g : d = c
  · rw [if_pos g, hz, hww, bI_or, Bool.or_eq_true, h c hc i hi, bI_p hs (by omega) hi, decide_eq_true_iff, g]
    constructor
    · rintro (⟨a, b⟩ | a)
      · exact ⟨by omega, by rw [ix_t a]; exact b⟩
      · rw [a, ix_h]; exact ⟨by omega, rfl⟩
    · rintro ⟨a, b⟩
      by_cases e2 : i = l.length
      · exact Or.inr e2
      · rw [ix_t (by omega)] at b; exact Or.inl ⟨by omega, b⟩
  · rw [if_neg g, h d hd i hi]
    constructor
    · rintro ⟨a, b⟩; exact ⟨by omega, by rw [ix_t a]; exact b⟩
    · rintro ⟨a, b⟩
      by_cases e2 : i = l.length
      · rw [e2, ix_h] at b; exact absurd b.symm g
      · rw [ix_t (by omega)] at b; exact ⟨by omega, b⟩
theorem alS_b {p p2 : xH} {N : Nat} {l : List Nat} {c : Nat} {z w s : Int32} (hw : hW p) (hN : N ≤ 10) (hc : c < N) (hs : s.toInt = (l.length : Int)) (hl : l.length < 10) (e : p2 = wV p 51 c (.int z)) (hz : z = rI p 51 c &&& (w ^^^ (-1))) (hww : w = (1 : Int32) <<< (s &&& 31)) (h : alS p N (c :: l)) : alS p2 N l := fun d hd i hi => by
  have k := h d hd i hi
  rw [List.length_cons] at k
  rw [e, rI_w hw (by show _ < 10; omega)]
  by_cases g : d = c
  · rw [g] at k
    rw [if_pos g, hz, hww, bI_and, bI_no _ hi, bI_p hs (by omega) hi, Bool.and_eq_true, k, Bool.not_eq_true', decide_eq_false_iff_not, g]
    constructor
    · rintro ⟨⟨a, b⟩, e2⟩; rw [ix_t (by omega)] at b; exact ⟨by omega, b⟩
    · rintro ⟨a, b⟩; exact ⟨⟨by omega, by rw [ix_t a]; exact b⟩, by omega⟩
  · rw [if_neg g, k]
    constructor
    · rintro ⟨a, b⟩
      by_cases e2 : i = l.length
      · rw [e2, ix_h] at b; exact absurd b.symm g
      · rw [ix_t (by omega)] at b; exact ⟨by omega, b⟩
    · rintro ⟨a, b⟩; exact ⟨by omega, by rw [ix_t a]; exact b⟩
def alR (B : Nat → Nat → Prop) (k : Nat) (l : List Nat) (u F F2 : Nat) : Prop := F2 ≤ F ∧ (F2 = F ∨ sX B k l u F2) ∧ ∀ v, sX B k l u v → F2 ≤ v
def alC (B : Nat → Nat → Prop) (k : Nat) (l : List Nat) (u c F F2 : Nat) : Prop := F2 ≤ F ∧ (F2 = F ∨ ∃ d, d < c ∧ d ≤ u ∧ sOk B l d ∧ sX B k (d :: l) (if d = u then u + 1 else u) F2) ∧ ∀ d, d < c → d ≤ u → sOk B l d → ∀ v, sX B k (d :: l) (if d = u then u + 1 else u) v → F2 ≤ v
theorem alC_0 {B : Nat → Nat → Prop} {k : Nat} {l : List Nat} {u c F : Nat} (hc : c = 0) : alC B k l u c F F := ⟨Nat.le_refl _, Or.inl rfl, fun d hd => absurd hd (by omega)⟩
theorem alC_n {B : Nat → Nat → Prop} {k : Nat} {l : List Nat} {u c c2 F F2 : Nat} (e : c2 = c + 1) (hn : ¬ sOk B l c) (h : alC B k l u c F F2) : alC B k l u c2 F F2 := by
  obtain ⟨h1, h2, h3⟩ := h
  refine ⟨h1, ?_, fun d hd hu ho v hv => ?_⟩
  · rcases h2 with h2 | ⟨d, d1, d2⟩
    · exact Or.inl h2
    · exact Or.inr ⟨d, by omega, d2⟩
  · by_cases g : d = c
    · rw [g] at ho; exact absurd ho hn
    · exact h3 d (by omega) hu ho v hv
theorem alC_y {B : Nat → Nat → Prop} {k : Nat} {l : List Nat} {u c c2 F F1 F2 : Nat} (e : c2 = c + 1) (hc : c ≤ u) (ho : sOk B l c) (h : alC B k l u c F F1) (g : alR B k (c :: l) (if c = u then u + 1 else u) F1 F2) : alC B k l u c2 F F2 := by
  obtain ⟨h1, h2, h3⟩ := h
  obtain ⟨g1, g2, g3⟩ := g
  refine ⟨by omega, ?_, fun d hd hu ho2 v hv => ?_⟩
  · rcases g2 with g2 | g2
    · rw [g2]
      rcases h2 with h2 | ⟨d, d1, d2⟩
      · exact Or.inl h2
      · exact Or.inr ⟨d, by omega, d2⟩
    · exact Or.inr ⟨c, by omega, hc, ho, g2⟩
  · by_cases q : d = c
    · rw [q] at hv; exact g3 v hv
    · exact Nat.le_trans g1 (h3 d (by omega) hu ho2 v hv)
theorem alC_R {B : Nat → Nat → Prop} {k j : Nat} {l : List Nat} {u c F F2 : Nat} (hk : k = j + 1) (hc : u < c) (h : alC B j l u c F F2) : alR B k l u F F2 := by
  obtain ⟨h1, h2, h3⟩ := h
  rw [hk]
  refine ⟨h1, ?_, fun v ⟨d, d1, d2, d3⟩ => h3 d (by omega) d1 d2 v d3⟩
  rcases h2 with h2 | ⟨d, d1, d2, d3, d4⟩
  · exact Or.inl h2
  · exact Or.inr ⟨d, d2, d3, d4⟩
/-- the search, in the rows -/
def alX (p : xH) (N : Nat) (B : Nat → Nat → Prop) (l : List Nat) (F : Nat) : Prop := alK p N B ∧ l.length ≤ N ∧ alS p N l ∧ (rI p 49 5).toInt = (F : Int) ∧ F ≤ 11
theorem alX_e {p p2 : xH} {N : Nat} {B : Nat → Nat → Prop} (h : hNt T_so p p2) (k : alK p N B) : alK p2 N B := by
  obtain ⟨a, b, c, d⟩ := k
  exact ⟨by rw [h.int (r := 1) (k := 5) rfl]; exact a, b, c, fun n hn i hi => by rw [h.int (r := 50) rfl]; exact d n hn i hi⟩
theorem al_ok {p : xH} {N : Nat} {B : Nat → Nat → Prop} {l : List Nat} {c : Nat} {z : Int32} (k : alK p N B) (s : alS p N l) (hl : l.length < N) (hc : c < N) (hz : z = rI p 51 c &&& rI p 50 l.length) : z.toInt = 0 ↔ sOk B l c := by
  obtain ⟨k1, k2, k3, k4⟩ := k
  constructor
  · intro g i hi e b
    have q := bI_zero.mp (show z = 0 from Int32.toInt_inj.mp (by rw [g]; decide)) i (by omega)
    rw [hz, bI_and, (s c hc i (by omega)).mpr ⟨hi, e⟩, (k4 l.length hl i (by omega)).mpr ⟨by omega, k3 _ _ b⟩] at q
    cases q
  · intro g
    have : z = 0 := bI_zero.mpr (fun i hi => by
      rw [hz, bI_and]
      cases h1 : bI (rI p 51 c) i with
      | false => rfl
      | true =>
        cases h2 : bI (rI p 50 l.length) i with
        | false => rfl
        | true =>
          obtain ⟨a1, a2⟩ := (s c hc i hi).mp h1
          obtain ⟨b1, b2⟩ := (k4 l.length hl i hi).mp h2
          exact absurd (k3 _ _ b2) (g i a1 a2))
    rw [this]
    decide
def hs_shareOut (ro : List (List Int32)) (n : Nat) : Prop := ∀ {d : Nat} {p : xH} {Q : Option Value → xH → Prop} {x : Int32} {xi : Int} {u : Int32} {ui : Int} (N : Nat) (B : Nat → Nat → Prop) (l : List Nat) (U : Nat) (F : Nat) (hx : x.toInt = xi) (hu : u.toInt = ui) (pre0 : alX p N B l F) (pre1 : xi = (l.length : Int)) (pre2 : ui = (U : Int)) (pre3 : U ≤ l.length) (k0 : ∀ F2 : Nat, ∀ p2 : xH, (hNt T_so p p2) → (alX p2 N B l F2) → (alR B (N - l.length) l U F F2) → Q none p2), hP ro n d (7, 4, 1, 0, k85) 0 (lv_args 0 [.ref 49, .int x, .int u]) [] p Q
def hs_shareInto (ro : List (List Int32)) (n : Nat) : Prop := ∀ {d : Nat} {p : xH} {Q : Option Value → xH → Prop} {c : Int32} {ci : Int} {x : Int32} {xi : Int} {u : Int32} {ui : Int} (N : Nat) (B : Nat → Nat → Prop) (l : List Nat) (U : Nat) (F : Nat) (hc : c.toInt = ci) (hx : x.toInt = xi) (hu : u.toInt = ui) (pre0 : alX p N B l F) (pre1 : xi = (l.length : Int)) (pre2 : ui = (U : Int)) (pre3 : U ≤ l.length) (pre4 : 0 ≤ ci) (pre5 : ci < 10) (pre6 : ci ≤ ui) (pre7 : l.length < N) (k0 : ∀ F2 : Nat, ∀ p2 : xH, (hNt T_so p p2) → (alX p2 N B l F2) → (alR B (N - l.length - 1) (ci.toNat :: l) (if ci.toNat = U then U + 1 else U) F F2) → Q none p2), hP ro n d (7, 4, 1, 0, k86) 0 (lv_args 0 [.ref 49, .int c, .int x, .int u]) [] p Q
def RC_al (ro : List (List Int32)) (n : Nat) : Prop := hs_shareOut ro n ∧ hs_shareInto ro n
theorem RC_al_more {ro : List (List Int32)} {n : Nat} (h : RC_al ro (n + 1)) : RC_al ro n := ⟨fun N B l U F hx hu pre0 pre1 pre2 pre3 k0 => hp_more (h.1 N B l U F hx hu pre0 pre1 pre2 pre3 k0), fun N B l U F hc hx hu pre0 pre1 pre2 pre3 pre4 pre5 pre6 pre7 k0 => hp_more (h.2 N B l U F hc hx hu pre0 pre1 pre2 pre3 pre4 pre5 pre6 pre7 k0)⟩
theorem rs_shareOut {ro : List (List Int32)} {n : Nat} (rc : RC_al ro n) {d : Nat} {p : xH} {Q : Option Value → xH → Prop} {x : Int32} {xi : Int} {u : Int32} {ui : Int} (N : Nat) (B : Nat → Nat → Prop) (l : List Nat) (U : Nat) (F : Nat) (hx : x.toInt = xi) (hu : u.toInt = ui) (pre0 : alX p N B l F) (pre1 : xi = (l.length : Int)) (pre2 : ui = (U : Int)) (pre3 : U ≤ l.length) (k0 : ∀ F2 : Nat, ∀ p2 : xH, (hNt T_so p p2) → (alX p2 N B l F2) → (alR B (N - l.length) l U F F2) → Q none p2) : hP ro n d (7, 4, 1, 0, k85) 0 (lv_args 0 [.ref 49, .int x, .int u]) [] p Q := rc.1 N B l U F hx hu pre0 pre1 pre2 pre3 k0
theorem rs_shareInto {ro : List (List Int32)} {n : Nat} (rc : RC_al ro n) {d : Nat} {p : xH} {Q : Option Value → xH → Prop} {c : Int32} {ci : Int} {x : Int32} {xi : Int} {u : Int32} {ui : Int} (N : Nat) (B : Nat → Nat → Prop) (l : List Nat) (U : Nat) (F : Nat) (hc : c.toInt = ci) (hx : x.toInt = xi) (hu : u.toInt = ui) (pre0 : alX p N B l F) (pre1 : xi = (l.length : Int)) (pre2 : ui = (U : Int)) (pre3 : U ≤ l.length) (pre4 : 0 ≤ ci) (pre5 : ci < 10) (pre6 : ci ≤ ui) (pre7 : l.length < N) (k0 : ∀ F2 : Nat, ∀ p2 : xH, (hNt T_so p p2) → (alX p2 N B l F2) → (alR B (N - l.length - 1) (ci.toNat :: l) (if ci.toNat = U then U + 1 else U) F F2) → Q none p2) : hP ro n d (7, 4, 1, 0, k86) 0 (lv_args 0 [.ref 49, .int c, .int x, .int u]) [] p Q := rc.2 N B l U F hc hx hu pre0 pre1 pre2 pre3 pre4 pre5 pre6 pre7 k0
theorem alC_m {B : Nat → Nat → Prop} {k : Nat} {l : List Nat} {u c c2 F F2 : Nat} (e : u < c ∧ u < c2) (h : alC B k l u c F F2) : alC B k l u c2 F F2 := by
  obtain ⟨h1, h2, h3⟩ := h
  refine ⟨h1, ?_, fun d _ hu ho v hv => h3 d (by omega) hu ho v hv⟩
  rcases h2 with h2 | ⟨d, d1, d2, d3⟩
  · exact Or.inl h2
  · exact Or.inr ⟨d, by omega, d2, d3⟩
theorem lp_85 {ro : List (List Int32)} {d : Nat} {Q : Option Value → xH → Prop} {p0 : xH} {N : Nat} {B : Nat → Nat → Prop} {l : List Nat} {U F0 : Nat} {x u : Int32} (hlN : l.length < N) (hN10 : N ≤ 10) (hx : x.toInt = (l.length : Int)) (hu : u.toInt = (U : Int)) (hU : U ≤ l.length) (K : ∀ (F2 : Nat) (p2 : xH), hNt T_so p0 p2 → alX p2 N B l F2 → alC B (N - l.length - 1) l U (U + 1) F0 F2 → Q none p2) : ∀ (n : Nat) (c : Int32) (F : Nat) (p : xH), (RC_al ro n) → (0 ≤ c.toInt) → (c.toInt ≤ U + 1) → (hNt T_so p0 p) → (alX p N B l F) → (alC B (N - l.length - 1) l U c.toInt.toNat F0 F) → hP ro n d (7, 4, 1, 0, k85) 28 [(3, .int c), (0, .ref 49), (1, .int x), (2, .int u)] [] p Q := by
  intro n
  induction n with
  | zero => intros; exact hp_0
  | succ n ih =>
    intro c F p rc hc1 hc2 hN hX hC
    replace rc := RC_al_more rc
    obtain ⟨x1, x2, x3, x4, x5⟩ := hX
    have hX : alX p N B l F := ⟨x1, x2, x3, x4, x5⟩
    refine hp_s1 (pc' := 29) (st' := [.int c]) rfl rfl rfl ?_
    refine hp_s (pc' := 30) (st' := [.int u, .int c]) rfl rfl rfl ?_
    refine hp_ic (pc' := 33) (t := 68) (a := c.toInt) (b := u.toInt) rfl rfl rfl rfl rfl (fun (h1 : u.toInt < c.toInt) => ?_) (fun (h2 : ¬ (u.toInt < c.toInt)) => ?_)
    ·
      refine hp_rv rfl rfl ?_
      exact K F p hN hX (alC_m (by omega) hC)
    ·
      refine hp_s (pc' := 34) (st' := [.int c]) rfl rfl rfl ?_
      refine hp_s (pc' := 36) (st' := [.int 10, .int c]) rfl rfl rfl ?_
      refine hp_ic (pc' := 39) (t := 68) (a := c.toInt) (b := 10) rfl rfl rfl rfl (by decide) (fun (h3 : 10 ≤ c.toInt) => ?_) (fun (h4 : ¬ (10 ≤ c.toInt)) => ?_)
      ·
        refine hp_rv rfl rfl ?_
        exact K F p hN hX (alC_m (by omega) hC)
      ·
        refine hp_s (pc' := 40) (st' := [.ref 49]) rfl rfl rfl ?_
        refine hp_getr (k := 4) (w := .ref 51) (pc' := 43) rfl rfl rfl rfl rfl ?_
        refine hp_s (pc' := 44) (st' := [.int c, .ref 51]) rfl rfl rfl ?_
        refine hp_ld (t := 100) (v := (rI p 51 c.toInt.toNat)) rfl (.inl rfl) rfl rfl rfl ?_
        intro (g1a : 0 ≤ c.toInt) (g1b : c.toInt < 10)
        refine hp_s (pc' := 46) (st' := [.ref 49, .int (rI p 51 c.toInt.toNat)]) rfl rfl rfl ?_
        refine hp_getr (k := 3) (w := .ref 50) (pc' := 49) rfl rfl rfl rfl rfl ?_
        refine hp_s (pc' := 50) (st' := [.int x, .ref 50, .int (rI p 51 c.toInt.toNat)]) rfl rfl rfl ?_
        refine hp_ld (t := 100) (v := (rI p 50 x.toInt.toNat)) rfl (.inl rfl) rfl rfl rfl ?_
        intro (g2a : 0 ≤ x.toInt) (g2b : x.toInt < 10)
        refine hp_z (pc' := 52) (e := (rI p 51 c.toInt.toNat) &&& (rI p 50 x.toInt.toNat)) (st' := []) rfl rfl rfl ?_
        intro z1 hz1
        have hok : z1.toInt = 0 ↔ sOk B l c.toInt.toNat := al_ok x1 x3 hlN (by omega) (by rw [hz1, show x.toInt.toNat = l.length by omega])
        refine hp_if (pc' := 55) (t := 62) (a := z1.toInt) rfl rfl rfl rfl (fun (h5 : z1.toInt ≠ 0) => ?_) (fun (h6 : ¬ (z1.toInt ≠ 0)) => ?_)
        ·
          refine hp_inc (L := fun z_ => [(3, .int z_), (0, .ref 49), (1, .int x), (2, .int u)]) (pc' := 65) rfl rfl rfl (fun _ => rfl) rfl ?_
          intro z2 hz2
          have ez2 := i_add hz2 (show c.toInt = c.toInt from rfl) (show (Int32.ofInt 1).toInt = 1 from by decide)
          refine hp_go (pc' := 28) rfl rfl rfl ?_
          exact ih z2 F p rc (by omega) (by omega) hN hX (alC_n (by omega) (fun g => absurd (hok.mpr g) (by omega)) hC)
        ·
          refine hp_s (pc' := 56) (st' := [.ref 49]) rfl rfl rfl ?_
          refine hp_s (pc' := 57) (st' := [.int c, .ref 49]) rfl rfl rfl ?_
          refine hp_s (pc' := 58) (st' := [.int x, .int c, .ref 49]) rfl rfl rfl ?_
          refine hp_s (pc' := 59) (st' := [.int u, .int x, .int c, .ref 49]) rfl rfl rfl ?_
          refine hp_cv (r := 49) (o := 7) (kd := 1) (as := [.int c, .int x, .int u]) (rest := []) (pc' := 62) rfl rfl rfl rfl rfl rfl rfl rfl rfl (fun d1 => ?_)
          refine rs_shareInto rc N B l U F (ci := c.toInt) rfl (xi := x.toInt) rfl (ui := u.toInt) rfl (by first | assumption | omega) (by first | assumption | omega) (by first | assumption | omega) (by first | assumption | omega) (by first | assumption | omega) (by first | assumption | omega) (by first | assumption | omega) (by first | assumption | omega) ?_
          intro y1 p1 h7 h8 h9
          refine hp_id (st := []) ?_
          refine hp_inc (L := fun z_ => [(3, .int z_), (0, .ref 49), (1, .int x), (2, .int u)]) (pc' := 65) rfl rfl rfl (fun _ => rfl) rfl ?_
          intro z3 hz3
          have ez3 := i_add hz3 (show c.toInt = c.toInt from rfl) (show (Int32.ofInt 1).toInt = 1 from by decide)
          refine hp_go (pc' := 28) rfl rfl rfl ?_
          exact ih z3 y1 p1 rc (by omega) (by omega) (hN.trans h7) h8 (alC_y (by omega) (by omega) (hok.mp (by omega)) hC h9)
theorem ts_shareOut {ro : List (List Int32)} {n : Nat} (rc : RC_al ro n) : hs_shareOut ro (n + 1) := by
  intro d p Q x xi u ui N B l U F hx hu pre0 pre1 pre2 pre3 k0
  subst hx
  subst hu
  refine hp_id (ls := [(0, .ref 49), (1, .int x), (2, .int u)]) ?_
  obtain ⟨x1, x2, x3, x4, x5⟩ := pre0
  have pre0 : alX p N B l F := ⟨x1, x2, x3, x4, x5⟩
  obtain ⟨b1, b2, b3, b4⟩ := x1
  have x1 : alK p N B := ⟨b1, b2, b3, b4⟩
  refine hp_s1 (pc' := 1) (st' := [.int u]) rfl rfl rfl ?_
  refine hp_s (pc' := 2) (st' := [.ref 49, .int u]) rfl rfl rfl ?_
  refine hp_get (k := 5) (pc' := 5) (v := (rI p 49 5)) rfl rfl rfl rfl rfl rfl ?_
  refine hp_ic (pc' := 8) (t := 9) (a := u.toInt) (b := (rI p 49 5).toInt) rfl rfl rfl rfl rfl (fun (h1 : u.toInt < (rI p 49 5).toInt) => ?_) (fun (h2 : ¬ (u.toInt < (rI p 49 5).toInt)) => ?_)
  ·
    refine hp_s (pc' := 10) (st' := [.int x]) rfl rfl rfl ?_
    refine hp_s (pc' := 11) (st' := [.ref 49, .int x]) rfl rfl rfl ?_
    refine hp_getr (k := 0) (w := .ref 1) (pc' := 14) rfl rfl rfl rfl rfl ?_
    refine hp_get (k := 5) (pc' := 17) (v := (rI p 1 5)) rfl rfl rfl rfl rfl rfl ?_
    refine hp_ic (pc' := 20) (t := 26) (a := x.toInt) (b := (rI p 1 5).toInt) rfl rfl rfl rfl rfl (fun (h3 : x.toInt < (rI p 1 5).toInt) => ?_) (fun (h4 : ¬ (x.toInt < (rI p 1 5).toInt)) => ?_)
    ·
      refine hp_s (pc' := 27) (st' := [.int 0]) rfl rfl rfl ?_
      refine hp_s (pc' := 28) (ls' := [(3, .int 0), (0, .ref 49), (1, .int x), (2, .int u)]) (st' := []) rfl rfl rfl ?_
      exact lp_85 (p0 := p) (N := N) (B := B) (l := l) (U := U) (F0 := F) (x := x) (u := u) (by omega) b2 pre1 pre2 pre3 (fun F2 p2 u1 u2 u3 => k0 F2 p2 u1 u2 (alC_R (j := N - l.length - 1) (by omega) (Nat.lt_succ_self _) u3)) n 0 F p rc (by decide) (by have h00 : (0 : Int32).toInt = 0 := (by decide); omega) (hNt.refl _ _) pre0 (alC_0 i_ofz)
    ·
      refine hp_s (pc' := 21) (st' := [.ref 49]) rfl rfl rfl ?_
      refine hp_s (pc' := 22) (st' := [.int u, .ref 49]) rfl rfl rfl ?_
      refine hp_put (k := 5) (pc' := 25) rfl rfl rfl rfl rfl ?_
      intro p1 wp1 ep1
      refine hp_rv rfl rfl ?_
      have n1 : hNt T_so p p1 := (by rw [ep1]; exact (hNt.w (hNt.refl _ _) rfl))
      refine k0 U p1 n1 ⟨alX_e n1 x1, x2, fun c hc i hi => by rw [ep1, rI_o (by decide)]; exact x3 c hc i hi, by rw [ep1, rI_eq wp1 (by decide)]; omega, by omega⟩ ⟨by omega, Or.inr ?_, fun v hv => sX_le hv⟩
      rw [show N - l.length = 0 by omega]
      rfl
  ·
    refine hp_rv rfl rfl ?_
    exact k0 F p (hNt.refl _ _) pre0 ⟨Nat.le_refl _, Or.inl rfl, fun v hv => by have q := sX_le hv; omega⟩
theorem ts_shareInto {ro : List (List Int32)} {n : Nat} (rc : RC_al ro n) : hs_shareInto ro (n + 1) := by
  intro d p Q c ci x xi u ui N B l U F hc hx hu pre0 pre1 pre2 pre3 pre4 pre5 pre6 pre7 k0
  subst hc
  subst hx
  subst hu
  refine hp_id (ls := [(0, .ref 49), (1, .int c), (2, .int x), (3, .int u)]) ?_
  refine hp_hw (fun w0 => ?_)
  obtain ⟨x1, x2, x3, x4, x5⟩ := pre0
  have pre0 : alX p N B l F := ⟨x1, x2, x3, x4, x5⟩
  have hN10 := x1.2.1
  refine hp_s1 (pc' := 1) (st' := [.ref 49]) rfl rfl rfl ?_
  refine hp_getr (k := 4) (w := .ref 51) (pc' := 4) rfl rfl rfl rfl rfl ?_
  refine hp_s (pc' := 5) (st' := [.int c, .ref 51]) rfl rfl rfl ?_
  refine hp_s (pc' := 6) (st' := [.int c, .ref 51, .int c, .ref 51]) rfl rfl rfl ?_
  refine hp_ld (t := 100) (v := (rI p 51 c.toInt.toNat)) rfl (.inl rfl) rfl rfl rfl ?_
  intro (g1a : 0 ≤ c.toInt) (g1b : c.toInt < 10)
  refine hp_s (pc' := 8) (st' := [.int 1, .int (rI p 51 c.toInt.toNat), .int c, .ref 51]) rfl rfl rfl ?_
  refine hp_s (pc' := 9) (st' := [.int x, .int 1, .int (rI p 51 c.toInt.toNat), .int c, .ref 51]) rfl rfl rfl ?_
  refine hp_z (pc' := 10) (e := 1 <<< (x &&& 31)) (st' := [.int (rI p 51 c.toInt.toNat), .int c, .ref 51]) rfl rfl rfl ?_
  intro z1 hz1
  refine hp_z (pc' := 11) (e := (rI p 51 c.toInt.toNat) ||| z1) (st' := [.int c, .ref 51]) rfl rfl rfl ?_
  intro z2 hz2
  refine hp_st (t := 100) rfl (.inl rfl) rfl rfl ?_
  intro p1 wp1 (p1a : 0 ≤ c.toInt) (p1b : c.toInt < 10) ep1
  refine hp_s (pc' := 13) (st' := [.ref 49]) rfl rfl rfl ?_
  refine hp_s (pc' := 14) (st' := [.int x, .ref 49]) rfl rfl rfl ?_
  refine hp_s (pc' := 15) (st' := [.int 1, .int x, .ref 49]) rfl rfl rfl ?_
  refine hp_z (pc' := 16) (e := x + 1) (st' := [.ref 49]) rfl rfl rfl ?_
  intro z3 hz3
  have ez3 := i_add hz3 (show x.toInt = x.toInt from rfl) (show (1 : Int32).toInt = 1 from by decide)
  refine hp_s (pc' := 17) (st' := [.int c, .int z3, .ref 49]) rfl rfl rfl ?_
  refine hp_s (pc' := 18) (st' := [.int u, .int c, .int z3, .ref 49]) rfl rfl rfl ?_
  refine hp_ic (pc' := 21) (t := 27) (a := c.toInt) (b := u.toInt) rfl rfl rfl rfl rfl (fun (h1 : c.toInt ≠ u.toInt) => ?_) (fun (h2 : ¬ (c.toInt ≠ u.toInt)) => ?_)
  ·
    refine hp_s (pc' := 28) (st' := [.int u, .int z3, .ref 49]) rfl rfl rfl ?_
    have n1 : hNt T_so p p1 := (by rw [ep1]; exact (hNt.w (hNt.refl _ _) rfl))
    have r0 : alX p1 N B (c.toInt.toNat :: l) F := ⟨alX_e n1 x1, by rw [List.length_cons]; omega, alS_c w0 hN10 (by omega) pre1 (by omega) ep1 hz2 hz1 x3, by rw [ep1, rI_o (by decide)]; exact x4, x5⟩
    have r1 : z3.toInt = ((c.toInt.toNat :: l).length : Int) := by rw [List.length_cons]; push_cast; omega
    have r2 : u.toInt = (((if c.toInt.toNat = U then U + 1 else U) : Nat) : Int) := by first | (rw [if_pos (by omega)]; push_cast; omega) | (rw [if_neg (by omega)]; omega)
    have r3 : (if c.toInt.toNat = U then U + 1 else U) ≤ (c.toInt.toNat :: l).length := by rw [List.length_cons]; first | (rw [if_pos (by omega)]; omega) | (rw [if_neg (by omega)]; omega)
    refine hp_cv (r := 49) (o := 7) (kd := 1) (as := [.int z3, .int u]) (rest := []) (pc' := 31) rfl rfl rfl rfl rfl rfl rfl rfl rfl (fun d1 => ?_)
    refine rs_shareOut rc N B (c.toInt.toNat :: l) (if c.toInt.toNat = U then U + 1 else U) F (xi := z3.toInt) rfl (ui := u.toInt) rfl (by first | assumption | omega) (by first | assumption | omega) (by first | assumption | omega) (by first | assumption | omega) ?_
    intro y1 p2 h3 h4 h5
    refine hp_hw (fun w1 => ?_)
    refine hp_id (st := []) ?_
    refine hp_s (pc' := 32) (st' := [.ref 49]) rfl rfl rfl ?_
    refine hp_getr (k := 4) (w := .ref 51) (pc' := 35) rfl rfl rfl rfl rfl ?_
    refine hp_s (pc' := 36) (st' := [.int c, .ref 51]) rfl rfl rfl ?_
    refine hp_s (pc' := 37) (st' := [.int c, .ref 51, .int c, .ref 51]) rfl rfl rfl ?_
    refine hp_ld (t := 100) (v := (rI p2 51 c.toInt.toNat)) rfl (.inl rfl) rfl rfl rfl ?_
    intro (g2a : 0 ≤ c.toInt) (g2b : c.toInt < 10)
    refine hp_s (pc' := 39) (st' := [.int 1, .int (rI p2 51 c.toInt.toNat), .int c, .ref 51]) rfl rfl rfl ?_
    refine hp_s (pc' := 40) (st' := [.int x, .int 1, .int (rI p2 51 c.toInt.toNat), .int c, .ref 51]) rfl rfl rfl ?_
    refine hp_z (pc' := 41) (e := 1 <<< (x &&& 31)) (st' := [.int (rI p2 51 c.toInt.toNat), .int c, .ref 51]) rfl rfl rfl ?_
    intro z4 hz4
    refine hp_s (pc' := 42) (st' := [.int (-1), .int z4, .int (rI p2 51 c.toInt.toNat), .int c, .ref 51]) rfl rfl rfl ?_
    refine hp_z (pc' := 43) (e := z4 ^^^ (-1)) (st' := [.int (rI p2 51 c.toInt.toNat), .int c, .ref 51]) rfl rfl rfl ?_
    intro z5 hz5
    refine hp_z (pc' := 44) (e := (rI p2 51 c.toInt.toNat) &&& z5) (st' := [.int c, .ref 51]) rfl rfl rfl ?_
    intro z6 hz6
    refine hp_st (t := 100) rfl (.inl rfl) rfl rfl ?_
    intro p3 wp3 (p3a : 0 ≤ c.toInt) (p3b : c.toInt < 10) ep3
    refine hp_rv rfl rfl ?_
    obtain ⟨y1, y2, y3, y4, y5⟩ := h4
    have n2 : hNt T_so p p3 := (by rw [ep3]; exact (hNt.w (hNt.trans (by rw [ep1]; exact (hNt.w (hNt.refl _ _) rfl)) (h3.up (by decide))) rfl))
    have qf := h5
    rw [show N - (c.toInt.toNat :: l).length = N - l.length - 1 by rw [List.length_cons]; omega] at qf
    exact k0 _ p3 n2 ⟨alX_e n2 x1, x2, alS_b w1 hN10 (by omega) pre1 (by omega) ep3 (by rw [hz6, hz5]) hz4 y3, by rw [ep3, rI_o (by decide)]; exact y4, y5⟩ qf
  ·
    refine hp_s (pc' := 22) (st' := [.int u, .int z3, .ref 49]) rfl rfl rfl ?_
    refine hp_s (pc' := 23) (st' := [.int 1, .int u, .int z3, .ref 49]) rfl rfl rfl ?_
    refine hp_z (pc' := 24) (e := u + 1) (st' := [.int z3, .ref 49]) rfl rfl rfl ?_
    intro z7 hz7
    have ez7 := i_add hz7 (show u.toInt = u.toInt from rfl) (show (1 : Int32).toInt = 1 from by decide)
    refine hp_go (pc' := 28) rfl rfl rfl ?_
    have n1 : hNt T_so p p1 := (by rw [ep1]; exact (hNt.w (hNt.refl _ _) rfl))
    have r0 : alX p1 N B (c.toInt.toNat :: l) F := ⟨alX_e n1 x1, by rw [List.length_cons]; omega, alS_c w0 hN10 (by omega) pre1 (by omega) ep1 hz2 hz1 x3, by rw [ep1, rI_o (by decide)]; exact x4, x5⟩
    have r1 : z3.toInt = ((c.toInt.toNat :: l).length : Int) := by rw [List.length_cons]; push_cast; omega
    have r2 : z7.toInt = (((if c.toInt.toNat = U then U + 1 else U) : Nat) : Int) := by first | (rw [if_pos (by omega)]; push_cast; omega) | (rw [if_neg (by omega)]; omega)
    have r3 : (if c.toInt.toNat = U then U + 1 else U) ≤ (c.toInt.toNat :: l).length := by rw [List.length_cons]; first | (rw [if_pos (by omega)]; omega) | (rw [if_neg (by omega)]; omega)
    refine hp_cv (r := 49) (o := 7) (kd := 1) (as := [.int z3, .int z7]) (rest := []) (pc' := 31) rfl rfl rfl rfl rfl rfl rfl rfl rfl (fun d2 => ?_)
    refine rs_shareOut rc N B (c.toInt.toNat :: l) (if c.toInt.toNat = U then U + 1 else U) F (xi := z3.toInt) rfl (ui := z7.toInt) rfl (by first | assumption | omega) (by first | assumption | omega) (by first | assumption | omega) (by first | assumption | omega) ?_
    intro y2 p4 h6 h7 h8
    refine hp_hw (fun w1 => ?_)
    refine hp_id (st := []) ?_
    refine hp_s (pc' := 32) (st' := [.ref 49]) rfl rfl rfl ?_
    refine hp_getr (k := 4) (w := .ref 51) (pc' := 35) rfl rfl rfl rfl rfl ?_
    refine hp_s (pc' := 36) (st' := [.int c, .ref 51]) rfl rfl rfl ?_
    refine hp_s (pc' := 37) (st' := [.int c, .ref 51, .int c, .ref 51]) rfl rfl rfl ?_
    refine hp_ld (t := 100) (v := (rI p4 51 c.toInt.toNat)) rfl (.inl rfl) rfl rfl rfl ?_
    intro (g3a : 0 ≤ c.toInt) (g3b : c.toInt < 10)
    refine hp_s (pc' := 39) (st' := [.int 1, .int (rI p4 51 c.toInt.toNat), .int c, .ref 51]) rfl rfl rfl ?_
    refine hp_s (pc' := 40) (st' := [.int x, .int 1, .int (rI p4 51 c.toInt.toNat), .int c, .ref 51]) rfl rfl rfl ?_
    refine hp_z (pc' := 41) (e := 1 <<< (x &&& 31)) (st' := [.int (rI p4 51 c.toInt.toNat), .int c, .ref 51]) rfl rfl rfl ?_
    intro z8 hz8
    refine hp_s (pc' := 42) (st' := [.int (-1), .int z8, .int (rI p4 51 c.toInt.toNat), .int c, .ref 51]) rfl rfl rfl ?_
    refine hp_z (pc' := 43) (e := z8 ^^^ (-1)) (st' := [.int (rI p4 51 c.toInt.toNat), .int c, .ref 51]) rfl rfl rfl ?_
    intro z9 hz9
    refine hp_z (pc' := 44) (e := (rI p4 51 c.toInt.toNat) &&& z9) (st' := [.int c, .ref 51]) rfl rfl rfl ?_
    intro z10 hz10
    refine hp_st (t := 100) rfl (.inl rfl) rfl rfl ?_
    intro p5 wp5 (p5a : 0 ≤ c.toInt) (p5b : c.toInt < 10) ep5
    refine hp_rv rfl rfl ?_
    obtain ⟨y1, y2, y3, y4, y5⟩ := h7
    have n2 : hNt T_so p p5 := (by rw [ep5]; exact (hNt.w (hNt.trans (by rw [ep1]; exact (hNt.w (hNt.refl _ _) rfl)) (h6.up (by decide))) rfl))
    have qf := h8
    rw [show N - (c.toInt.toNat :: l).length = N - l.length - 1 by rw [List.length_cons]; omega] at qf
    exact k0 _ p5 n2 ⟨alX_e n2 x1, x2, alS_b w1 hN10 (by omega) pre1 (by omega) ep5 (by rw [hz10, hz9]) hz8 y3, by rw [ep5, rI_o (by decide)]; exact y4, y5⟩ qf
theorem RC_al_all {ro : List (List Int32)} : ∀ n : Nat, RC_al ro n
  | 0 => ⟨fun _ _ _ _ _ _ _ _ _ _ _ _ => hp_0, fun _ _ _ _ _ _ _ _ _ _ _ _ _ _ _ _ _ => hp_0⟩
  | n + 1 => ⟨ts_shareOut (RC_al_all n), ts_shareInto (RC_al_all n)⟩
theorem s_shareOut {ro : List (List Int32)} {n : Nat} {d : Nat} {p : xH} {Q : Option Value → xH → Prop} {x : Int32} {xi : Int} {u : Int32} {ui : Int} (N : Nat) (B : Nat → Nat → Prop) (l : List Nat) (U : Nat) (F : Nat) (hx : x.toInt = xi) (hu : u.toInt = ui) (pre0 : alX p N B l F) (pre1 : xi = (l.length : Int)) (pre2 : ui = (U : Int)) (pre3 : U ≤ l.length) (k0 : ∀ F2 : Nat, ∀ p2 : xH, (hNt T_so p p2) → (alX p2 N B l F2) → (alR B (N - l.length) l U F F2) → Q none p2) : hP ro n d (7, 4, 1, 0, k85) 0 (lv_args 0 [.ref 49, .int x, .int u]) [] p Q := rs_shareOut (RC_al_all n) N B l U F hx hu pre0 pre1 pre2 pre3 k0
theorem s_shareInto {ro : List (List Int32)} {n : Nat} {d : Nat} {p : xH} {Q : Option Value → xH → Prop} {c : Int32} {ci : Int} {x : Int32} {xi : Int} {u : Int32} {ui : Int} (N : Nat) (B : Nat → Nat → Prop) (l : List Nat) (U : Nat) (F : Nat) (hc : c.toInt = ci) (hx : x.toInt = xi) (hu : u.toInt = ui) (pre0 : alX p N B l F) (pre1 : xi = (l.length : Int)) (pre2 : ui = (U : Int)) (pre3 : U ≤ l.length) (pre4 : 0 ≤ ci) (pre5 : ci < 10) (pre6 : ci ≤ ui) (pre7 : l.length < N) (k0 : ∀ F2 : Nat, ∀ p2 : xH, (hNt T_so p p2) → (alX p2 N B l F2) → (alR B (N - l.length - 1) (ci.toNat :: l) (if ci.toNat = U then U + 1 else U) F F2) → Q none p2) : hP ro n d (7, 4, 1, 0, k86) 0 (lv_args 0 [.ref 49, .int c, .int x, .int u]) [] p Q := rs_shareInto (RC_al_all n) N B l U F hc hx hu pre0 pre1 pre2 pre3 pre4 pre5 pre6 pre7 k0
