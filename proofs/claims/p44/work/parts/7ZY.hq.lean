/-! contracts of methods, walked -/
abbrev T_fc : List (Nat × Nat) := [(20, 4), (23, 9999), (24, 9999), (45, 9999)]
/-- by choice a of X the choice c of Q clashes -/
def kP (M : Nat → Nat → Prop) (C : Nat → Nat → Nat → Nat → Prop) (X A Q c : Nat) : Prop := M Q c ∧ C X A Q c
def kX (p : xH) (lo : Option (List yN)) : Nat → Nat → Nat → Nat → Prop := hC (rI p 14) (rI p 13 9) (rI p 13 8) lo
theorem kX_e {p p2 : xH} {lo : Option (List yN)} (e14 : ∀ j, rI p2 14 j = rI p 14 j) (e9 : rI p2 13 9 = rI p 13 9) (e8 : rI p2 13 8 = rI p 13 8) : kX p2 lo = kX p lo := by
  unfold kX
  rw [show rI p2 14 = rI p 14 from funext e14, e9, e8]
theorem hM_e {p p2 : xH} {r o : Nat} (e : ∀ j, rI p2 r j = rI p r j) : hM p2 r o = hM p r o := by
  funext q c
  unfold hM
  rw [e]
theorem bit_n {b : Int32} {O : Nat} {P : Nat → Prop} (h : ∀ c, c < 32 → (bI b c = true ↔ c < O ∧ P c)) (hn : ¬ P O) : ∀ c, c < 32 → (bI b c = true ↔ c < O + 1 ∧ P c) := fun c hc => by
  rw [h c hc]
  constructor
  · rintro ⟨a1, a2⟩; exact ⟨by omega, a2⟩
  · rintro ⟨a1, a2⟩
    by_cases e : c = O
    · rw [e] at a2; exact absurd a2 hn
    · exact ⟨by omega, a2⟩
theorem bit_y {b b2 w o : Int32} {O : Nat} {P : Nat → Prop} (h : ∀ c, c < 32 → (bI b c = true ↔ c < O ∧ P c)) (hy : P O) (ho : o.toInt = O) (hO : O < 32) (hw : w = (1 : Int32) <<< (o &&& 31)) (hz : b2 = b ||| w) : ∀ c, c < 32 → (bI b2 c = true ↔ c < O + 1 ∧ P c) := fun c hc => by
  rw [hz, hw, bI_or, Bool.or_eq_true, h c hc, bI_p ho hO hc, decide_eq_true_iff]
  constructor
  · rintro (⟨a1, a2⟩ | a)
    · exact ⟨by omega, a2⟩
    · rw [a]; exact ⟨by omega, hy⟩
  · rintro ⟨a1, a2⟩
    by_cases e : c = O
    · exact Or.inr e
    · exact Or.inl ⟨by omega, a2⟩
/-- the row of X's choice A is right, for those below n -/
def kR (p : xH) (M : Nat → Nat → Prop) (C : Nat → Nat → Nat → Nat → Prop) (X A n : Nat) : Prop := ∀ q, X < q → q < n → ∀ c, c < 32 → (bI (rI p 45 (49 * X + 7 * A + q)) c = true ↔ c < 7 ∧ kP M C X A q c)
def kO (p p2 : xH) (X A : Nat) : Prop := ∀ j, ¬ (49 * X + 7 * A ≤ j ∧ j < 49 * X + 7 * A + 7) → rI p2 45 j = rI p 45 j
theorem kO_0 {p : xH} {X A : Nat} : kO p p X A := fun _ _ => rfl
theorem lp_119b {ro : List (List Int32)} {d : Nat} {Q : Option Value → xH → Prop} {p0 : xH} {lo : Option (List yN)} {x a y : Int32} {N : Nat} (g0 : lXo p0 lo) (x0 : 0 ≤ x.toInt) (x7 : x.toInt < 7) (a0 : 0 ≤ a.toInt) (a7 : a.toInt < 7) (y0 : 0 ≤ y.toInt) (y7 : y.toInt < 7) (K : ∀ m : Nat, m ≤ N → ∀ (o b : Int32) (p2 : xH), (hNt T_h p0 p2) → (∀ c, c < 32 → (bI b c = true ↔ c < 7 ∧ kP (hM p0 15 0) (kX p0 lo) x.toInt.toNat a.toInt.toNat y.toInt.toNat c)) → hP ro m d (10, 6, 1, 0, k119) 95 [(5, .int o), (4, .int b), (3, .int y), (0, .ref 44), (1, .int x), (2, .int a)] [] p2 Q) : ∀ (n : Nat) (hn : n ≤ N) (o : Int32) (b : Int32) (p : xH), (0 ≤ o.toInt) → (o.toInt ≤ 7) → (hNt T_h p0 p) → (∀ c, c < 32 → (bI b c = true ↔ c < o.toInt.toNat ∧ kP (hM p0 15 0) (kX p0 lo) x.toInt.toNat a.toInt.toNat y.toInt.toNat c)) → hP ro n d (10, 6, 1, 0, k119) 36 [(5, .int o), (4, .int b), (3, .int y), (0, .ref 44), (1, .int x), (2, .int a)] [] p Q := by
  intro n
  induction n with
  | zero => intros; exact hp_0
  | succ n ih =>
    intro hn o b p ho1 ho2 hN hb
    have hlo : lXo p lo := lXo_nt hN rfl (fun _ => rfl) (fun _ => rfl) g0
    have eM : hM p 15 0 = hM p0 15 0 := hM_e (fun j => hN.int (r := 15) rfl)
    have eK : kX p lo = kX p0 lo := kX_e (fun j => hN.int (r := 14) rfl) (hN.int (r := 13) (k := 9) rfl) (hN.int (r := 13) (k := 8) rfl)
    refine hp_s1 (pc' := 38) (st' := [.int o]) rfl rfl rfl ?_
    refine hp_s (pc' := 40) (st' := [.int 7, .int o]) rfl rfl rfl ?_
    refine hp_ic (pc' := 43) (t := 95) (a := o.toInt) (b := 7) rfl rfl rfl rfl (by decide) (fun (h1 : 7 ≤ o.toInt) => ?_) (fun (h2 : ¬ (7 ≤ o.toInt)) => ?_)
    ·
      exact K n (by omega) _ _ p hN (by rw [show o.toInt.toNat = 7 by omega] at hb; exact hb)
    ·
      refine hp_s (pc' := 44) (st' := [.ref 44]) rfl rfl rfl ?_
      refine hp_getr (k := 0) (w := .ref 13) (pc' := 47) rfl rfl rfl rfl rfl ?_
      refine hp_s (pc' := 48) (st' := [.int y, .ref 13]) rfl rfl rfl ?_
      refine hp_s (pc' := 50) (st' := [.int o, .int y, .ref 13]) rfl rfl rfl ?_
      refine hp_s (pc' := 51) (st' := [.int 1, .int o, .int y, .ref 13]) rfl rfl rfl ?_
      refine hp_z (pc' := 52) (e := o - 1) (st' := [.int y, .ref 13]) rfl rfl rfl ?_
      intro z1 hz1
      have ez1 := i_sub hz1 (show o.toInt = o.toInt from rfl) (show (1 : Int32).toInt = 1 from by decide)
      have hmW : hWr (rI p 15 y.toInt.toNat) z1 ↔ hM p0 15 0 y.toInt.toNat o.toInt.toNat := by rw [← eM]; have q := hM_w (p := p) (r := 15) (o := 0) (q := y.toInt.toNat) (c := o.toInt.toNat) (y := z1) (by omega) (by omega); rw [Nat.zero_add] at q; exact q
      refine hp_cv (r := 13) (o := 1) (kd := 1) (as := [.int y, .int z1]) (rest := []) (pc' := 55) rfl rfl rfl rfl rfl rfl rfl rfl rfl (fun d1 => ?_)
      refine s_mayWear (xi := y.toInt) rfl (yi := z1.toInt) rfl ?_ ?_
      ·
        intro h3
        refine hp_id (st := [.int 1]) ?_
        refine hp_go (pc' := 61) rfl rfl rfl ?_
        refine hp_s (pc' := 62) (st' := [.ref 44]) rfl rfl rfl ?_
        refine hp_getr (k := 1) (w := .ref 32) (pc' := 65) rfl rfl rfl rfl rfl ?_
        refine hp_s (pc' := 66) (st' := [.int x, .ref 32]) rfl rfl rfl ?_
        refine hp_s (pc' := 67) (st' := [.int a, .int x, .ref 32]) rfl rfl rfl ?_
        refine hp_s (pc' := 68) (st' := [.int 1, .int a, .int x, .ref 32]) rfl rfl rfl ?_
        refine hp_z (pc' := 69) (e := a - 1) (st' := [.int x, .ref 32]) rfl rfl rfl ?_
        intro z2 hz2
        have ez2 := i_sub hz2 (show a.toInt = a.toInt from rfl) (show (1 : Int32).toInt = 1 from by decide)
        refine hp_s (pc' := 70) (st' := [.int y, .int z2, .int x, .ref 32]) rfl rfl rfl ?_
        refine hp_s (pc' := 72) (st' := [.int o, .int y, .int z2, .int x, .ref 32]) rfl rfl rfl ?_
        refine hp_s (pc' := 73) (st' := [.int 1, .int o, .int y, .int z2, .int x, .ref 32]) rfl rfl rfl ?_
        refine hp_z (pc' := 74) (e := o - 1) (st' := [.int y, .int z2, .int x, .ref 32]) rfl rfl rfl ?_
        intro z3 hz3
        have ez3 := i_sub hz3 (show o.toInt = o.toInt from rfl) (show (1 : Int32).toInt = 1 from by decide)
        have ef : z2 = hc a.toInt.toNat := hc_of (by omega) (by omega)
        have eg : z3 = hc o.toInt.toNat := hc_of (by omega) (by omega)
        refine hp_cv (r := 32) (o := 4) (kd := 1) (as := [.int x, .int z2, .int y, .int z3]) (rest := []) (pc' := 77) rfl rfl rfl rfl rfl rfl rfl rfl rfl (fun d2 => ?_)
        refine s_isWith lo (xi := x.toInt) rfl (fi := z2.toInt) rfl (yi := y.toInt) rfl (gi := z3.toInt) rfl (by first | assumption | omega) (by first | assumption | omega) (by first | assumption | omega) ?_ ?_
        ·
          intro p1 h4 h5
          rw [ef, eg] at h5
          refine hp_id (st := [.int 1]) ?_
          refine hp_go (pc' := 80) rfl rfl rfl ?_
          refine hp_s (pc' := 82) (st' := [.int b]) rfl rfl rfl ?_
          refine hp_s (pc' := 83) (st' := [.int 1, .int b]) rfl rfl rfl ?_
          refine hp_s (pc' := 85) (st' := [.int o, .int 1, .int b]) rfl rfl rfl ?_
          refine hp_z (pc' := 86) (e := 1 <<< (o &&& 31)) (st' := [.int b]) rfl rfl rfl ?_
          intro z4 hz4
          refine hp_z (pc' := 87) (e := b ||| z4) (st' := []) rfl rfl rfl ?_
          intro z5 hz5
          refine hp_s (pc' := 89) (ls' := [(4, .int z5), (5, .int o), (3, .int y), (0, .ref 44), (1, .int x), (2, .int a)]) (st' := []) rfl rfl rfl ?_
          refine hp_inc (L := fun z_ => [(5, .int z_), (4, .int z5), (3, .int y), (0, .ref 44), (1, .int x), (2, .int a)]) (pc' := 92) rfl rfl rfl (fun _ => rfl) rfl ?_
          intro z6 hz6
          have ez6 := i_add hz6 (show o.toInt = o.toInt from rfl) (show (Int32.ofInt 1).toInt = 1 from by decide)
          refine hp_go (pc' := 36) rfl rfl rfl ?_
          have hye : kP (hM p0 15 0) (kX p0 lo) x.toInt.toNat a.toInt.toNat y.toInt.toNat o.toInt.toNat := ⟨hmW.mp h3, by rw [← eK]; exact h5⟩
          refine ih (by omega) z6 z5 p1 (by omega) (by omega) (hN.trans (h4.up (by decide))) (by rw [show z6.toInt.toNat = o.toInt.toNat + 1 by omega]; exact bit_y hb hye (by omega) (by omega) hz4 hz5)
        ·
          intro p2 h6 h7
          rw [ef, eg] at h7
          refine hp_id (st := [.int 0]) ?_
          refine hp_go (pc' := 89) rfl rfl rfl ?_
          refine hp_inc (L := fun z_ => [(5, .int z_), (4, .int b), (3, .int y), (0, .ref 44), (1, .int x), (2, .int a)]) (pc' := 92) rfl rfl rfl (fun _ => rfl) rfl ?_
          intro z7 hz7
          have ez7 := i_add hz7 (show o.toInt = o.toInt from rfl) (show (Int32.ofInt 1).toInt = 1 from by decide)
          refine hp_go (pc' := 36) rfl rfl rfl ?_
          have hno : ¬ kP (hM p0 15 0) (kX p0 lo) x.toInt.toNat a.toInt.toNat y.toInt.toNat o.toInt.toNat := fun g => h7 (by have q := g.2; rw [← eK] at q; exact q)
          refine ih (by omega) z7 b p2 (by omega) (by omega) (hN.trans (h6.up (by decide))) (by rw [show z7.toInt.toNat = o.toInt.toNat + 1 by omega]; exact bit_n hb hno)
      ·
        intro h8
        refine hp_id (st := [.int 0]) ?_
        refine hp_go (pc' := 58) rfl rfl rfl ?_
        refine hp_go (pc' := 89) rfl rfl rfl ?_
        refine hp_inc (L := fun z_ => [(5, .int z_), (4, .int b), (3, .int y), (0, .ref 44), (1, .int x), (2, .int a)]) (pc' := 92) rfl rfl rfl (fun _ => rfl) rfl ?_
        intro z8 hz8
        have ez8 := i_add hz8 (show o.toInt = o.toInt from rfl) (show (Int32.ofInt 1).toInt = 1 from by decide)
        refine hp_go (pc' := 36) rfl rfl rfl ?_
        have hno : ¬ kP (hM p0 15 0) (kX p0 lo) x.toInt.toNat a.toInt.toNat y.toInt.toNat o.toInt.toNat := fun g => h8 (by rw [hmW]; exact g.1)
        refine ih (by omega) z8 b p (by omega) (by omega) hN (by rw [show z8.toInt.toNat = o.toInt.toNat + 1 by omega]; exact bit_n hb hno)
theorem lp_119a {ro : List (List Int32)} {d : Nat} {Q : Option Value → xH → Prop} {p0 : xH} {lo : Option (List yN)} {S : Nat} {x a : Int32} (g0 : lXo p0 lo) (g1 : 0 ≤ x.toInt) (g2b : x.toInt < S) (g3 : 0 ≤ a.toInt) (g4 : a.toInt < 7) (gS : (rI p0 13 7).toInt = (S : Int)) (gS7 : S ≤ 7) (K : ∀ p2 : xH, hNt T_fc p0 p2 → kR p2 (hM p0 15 0) (kX p0 lo) x.toInt.toNat a.toInt.toNat S → kO p0 p2 x.toInt.toNat a.toInt.toNat → Q none p2) : ∀ (n : Nat) (y : Int32) (b : Int32) (o : Int32) (p : xH), (x.toInt + 1 ≤ y.toInt) → (y.toInt ≤ S) → (hNt T_fc p0 p) → (kR p (hM p0 15 0) (kX p0 lo) x.toInt.toNat a.toInt.toNat y.toInt.toNat) → (kO p0 p x.toInt.toNat a.toInt.toNat) → hP ro n d (10, 6, 1, 0, k119) 19 [(3, .int y), (4, .int b), (5, .int o), (0, .ref 44), (1, .int x), (2, .int a)] [] p Q := by
  intro n
  induction n with
  | zero => intros; exact hp_0
  | succ n ih =>
    intro y b o p hy1 hy2 hN hK hO
    have hlo : lXo p lo := lXo_nt hN rfl (fun _ => rfl) (fun _ => rfl) g0
    have eM : hM p 15 0 = hM p0 15 0 := hM_e (fun j => hN.int (r := 15) rfl)
    have eK : kX p lo = kX p0 lo := kX_e (fun j => hN.int (r := 14) rfl) (hN.int (r := 13) (k := 9) rfl) (hN.int (r := 13) (k := 8) rfl)
    have g2 : x.toInt < 7 := by omega
    have e13 : (rI p 13 7).toInt = (S : Int) := by rw [hN.int (r := 13) (k := 7) rfl]; exact gS
    refine hp_s1 (pc' := 20) (st' := [.int y]) rfl rfl rfl ?_
    refine hp_s (pc' := 21) (st' := [.ref 44, .int y]) rfl rfl rfl ?_
    refine hp_getr (k := 0) (w := .ref 13) (pc' := 24) rfl rfl rfl rfl rfl ?_
    refine hp_get (k := 7) (pc' := 27) (v := (rI p 13 7)) rfl rfl rfl rfl rfl rfl ?_
    refine hp_ic (pc' := 30) (t := 119) (a := y.toInt) (b := (rI p 13 7).toInt) rfl rfl rfl rfl rfl (fun (h1 : (rI p 13 7).toInt ≤ y.toInt) => ?_) (fun (h2 : ¬ ((rI p 13 7).toInt ≤ y.toInt)) => ?_)
    ·
      refine hp_rv rfl rfl ?_
      exact K p hN (by rw [show y.toInt.toNat = S by omega] at hK; exact hK) hO
    ·
      refine hp_s (pc' := 31) (st' := [.int 0]) rfl rfl rfl ?_
      refine hp_s (pc' := 33) (ls' := [(4, .int 0), (3, .int y), (5, .int o), (0, .ref 44), (1, .int x), (2, .int a)]) (st' := []) rfl rfl rfl ?_
      refine hp_s (pc' := 34) (st' := [.int 0]) rfl rfl rfl ?_
      refine hp_s (pc' := 36) (ls' := [(5, .int 0), (4, .int 0), (3, .int y), (0, .ref 44), (1, .int x), (2, .int a)]) (st' := []) rfl rfl rfl ?_
      refine lp_119b (p0 := p) (lo := lo) (N := n) (x := x) (a := a) (y := y) hlo g1 g2 g3 g4 (by omega) (by omega) (fun m0 hm0 o b pe j1 j2 => ?_) n (Nat.le_refl _) 0 0 p (by decide) (by decide) (hNt.refl _ _) (fun c _ => by rw [bI_0, i_ofz]; exact ⟨fun g => (by cases g), fun g => absurd g.1 (Nat.not_lt_zero _)⟩)
      refine hp_s (pc' := 96) (st' := [.ref 44]) rfl rfl rfl ?_
      refine hp_getr (k := 2) (w := .ref 45) (pc' := 99) rfl rfl rfl rfl rfl ?_
      refine hp_s (pc' := 100) (st' := [.int x, .ref 45]) rfl rfl rfl ?_
      refine hp_s (pc' := 102) (st' := [.int 7, .int x, .ref 45]) rfl rfl rfl ?_
      refine hp_z (pc' := 103) (e := x * 7) (st' := [.ref 45]) rfl rfl rfl ?_
      intro z1 hz1
      have ez1 := i_mul hz1 (show x.toInt = x.toInt from rfl) (show (7 : Int32).toInt = 7 from by decide)
      refine hp_s (pc' := 104) (st' := [.int a, .int z1, .ref 45]) rfl rfl rfl ?_
      refine hp_z (pc' := 105) (e := z1 + a) (st' := [.ref 45]) rfl rfl rfl ?_
      intro z2 hz2
      have ez2 := i_add hz2 (show z1.toInt = z1.toInt from rfl) (show a.toInt = a.toInt from rfl)
      refine hp_s (pc' := 107) (st' := [.int 7, .int z2, .ref 45]) rfl rfl rfl ?_
      refine hp_z (pc' := 108) (e := z2 * 7) (st' := [.ref 45]) rfl rfl rfl ?_
      intro z3 hz3
      have ez3 := i_mul hz3 (show z2.toInt = z2.toInt from rfl) (show (7 : Int32).toInt = 7 from by decide)
      refine hp_s (pc' := 109) (st' := [.int y, .int z3, .ref 45]) rfl rfl rfl ?_
      refine hp_z (pc' := 110) (e := z3 + y) (st' := [.ref 45]) rfl rfl rfl ?_
      intro z4 hz4
      have ez4 := i_add hz4 (show z3.toInt = z3.toInt from rfl) (show y.toInt = y.toInt from rfl)
      refine hp_s (pc' := 112) (st' := [.int b, .int z4, .ref 45]) rfl rfl rfl ?_
      refine hp_st (t := 100) rfl (.inl rfl) rfl rfl ?_
      intro p1 wp1 (p1a : 0 ≤ z4.toInt) (p1b : z4.toInt < 343) ep1
      refine hp_inc (L := fun z_ => [(3, .int z_), (5, .int o), (4, .int b), (0, .ref 44), (1, .int x), (2, .int a)]) (pc' := 116) rfl rfl rfl (fun _ => rfl) rfl ?_
      intro z5 hz5
      have ez5 := i_add hz5 (show y.toInt = y.toInt from rfl) (show (Int32.ofInt 1).toInt = 1 from by decide)
      refine hp_go (pc' := 19) rfl rfl rfl ?_
      refine hp_ls (ls' := [(3, .int z5), (4, .int b), (5, .int o), (0, .ref 44), (1, .int x), (2, .int a)]) rfl rfl ⟨rfl, rfl, rfl, rfl, rfl, rfl, trivial⟩ ?_
      have hix : z4.toInt.toNat = 49 * x.toInt.toNat + 7 * a.toInt.toNat + y.toInt.toNat := by omega
      refine hp_le hm0 (ih z5 b o p1 (by omega) (by omega) (by rw [ep1]; exact (hNt.w (hN.trans (j1.up (by decide))) rfl)) (fun q q1 q2 c hc => ?_) (fun j hj => ?_))
      · rw [ep1, rI_w wp1 (by show _ < 343; omega), hix]
        by_cases g : q = y.toInt.toNat
        · rw [if_pos (by omega), g, j2 c hc, eM, eK]
        · rw [if_neg (by omega), j1.int (r := 45) rfl]; exact hK q q1 (by omega) c hc
      · rw [ep1, rI_w wp1 (by show _ < 343; omega), hix, if_neg (by omega), j1.int (r := 45) rfl]; exact hO j hj
theorem s_findClashes {ro : List (List Int32)} {n d : Nat} {p : xH} {Q : Option Value → xH → Prop} (lo : Option (List yN)) (S : Nat) {x : Int32} {xi : Int} {a : Int32} {ai : Int} (hx : x.toInt = xi) (ha : a.toInt = ai) (pre0 : lXo p lo) (pre1 : 0 ≤ xi) (pre2 : xi < S) (pre3 : 0 ≤ ai) (pre4 : ai < 7) (pre5 : (rI p 13 7).toInt = (S : Int)) (pre6 : S ≤ 7) (k0 : ∀ p2 : xH, (hNt T_fc p p2) → (hM p 15 0 xi.toNat ai.toNat → kR p2 (hM p 15 0) (kX p lo) xi.toNat ai.toNat S) → (kO p p2 xi.toNat ai.toNat) → Q none p2) : hP ro n d (10, 6, 1, 0, k119) 0 (lv_args 0 [.ref 44, .int x, .int a]) [] p Q := by
  subst hx
  subst ha
  refine hp_id (ls := [(0, .ref 44), (1, .int x), (2, .int a)]) ?_
  refine hp_s (pc' := 1) (st' := [.ref 44]) rfl rfl rfl ?_
  refine hp_getr (k := 0) (w := .ref 13) (pc' := 4) rfl rfl rfl rfl rfl ?_
  refine hp_s (pc' := 5) (st' := [.int x, .ref 13]) rfl rfl rfl ?_
  refine hp_s (pc' := 6) (st' := [.int a, .int x, .ref 13]) rfl rfl rfl ?_
  refine hp_s (pc' := 7) (st' := [.int 1, .int a, .int x, .ref 13]) rfl rfl rfl ?_
  refine hp_z (pc' := 8) (e := a - 1) (st' := [.int x, .ref 13]) rfl rfl rfl ?_
  intro z1 hz1
  have ez1 := i_sub hz1 (show a.toInt = a.toInt from rfl) (show (1 : Int32).toInt = 1 from by decide)
  have hmW : hWr (rI p 15 x.toInt.toNat) z1 ↔ hM p 15 0 x.toInt.toNat a.toInt.toNat := by have q := hM_w (p := p) (r := 15) (o := 0) (q := x.toInt.toNat) (c := a.toInt.toNat) (y := z1) (by omega) (by omega); rw [Nat.zero_add] at q; exact q
  refine hp_cv (r := 13) (o := 1) (kd := 1) (as := [.int x, .int z1]) (rest := []) (pc' := 11) rfl rfl rfl rfl rfl rfl rfl rfl rfl (fun d1 => ?_)
  refine s_mayWear (xi := x.toInt) rfl (yi := z1.toInt) rfl ?_ ?_
  ·
    intro h1
    refine hp_id (st := [.int 1]) ?_
    refine hp_go (pc' := 15) rfl rfl rfl ?_
    refine hp_s (pc' := 16) (st' := [.int x]) rfl rfl rfl ?_
    refine hp_s (pc' := 17) (st' := [.int 1, .int x]) rfl rfl rfl ?_
    refine hp_z (pc' := 18) (e := x + 1) (st' := []) rfl rfl rfl ?_
    intro z2 hz2
    have ez2 := i_add hz2 (show x.toInt = x.toInt from rfl) (show (1 : Int32).toInt = 1 from by decide)
    refine hp_s (pc' := 19) (ls' := [(3, .int z2), (0, .ref 44), (1, .int x), (2, .int a)]) (st' := []) rfl rfl rfl ?_
    refine hp_ls (ls' := [(3, .int z2), (4, .int 0), (5, .int 0), (0, .ref 44), (1, .int x), (2, .int a)]) rfl rfl ⟨rfl, rfl, rfl, rfl, trivial⟩ ?_
    exact lp_119a (p0 := p) (lo := lo) (S := S) (x := x) (a := a) pre0 pre1 pre2 pre3 pre4 pre5 pre6 (fun p2 u1 u2 u3 => k0 p2 u1 (fun _ => u2) u3) n _ (0 : Int32) (0 : Int32) p (by omega) (by omega) (hNt.refl _ _) (fun q q1 q2 => absurd q2 (by omega)) kO_0
  ·
    intro h2
    refine hp_id (st := [.int 0]) ?_
    refine hp_go (pc' := 14) rfl rfl rfl ?_
    refine hp_rv rfl rfl ?_
    exact k0 p (hNt.refl _ _) (fun g => absurd (hmW.mpr g) h2) kO_0
def hsK (p : xH) (S : Nat) (M : Nat → Nat → Prop) (C : Nat → Nat → Nat → Nat → Prop) : Prop := (rI p 13 7).toInt = (S : Int) ∧ S ≤ 7 ∧ ∀ n, n < S → ∀ a, a < 7 → M n a → kR p M C n a S
/-- the choices that are free, l having chosen -/
def hsF (p : xH) (S : Nat) (M : Nat → Nat → Prop) (C : Nat → Nat → Nat → Nat → Prop) (l : List Nat) (L n : Nat) : Prop := ∀ q, L ≤ q → q < n → ∀ c, c < 32 → (bI (rI p 46 (7 * L + q)) c = true ↔ c < 7 ∧ hFr M C l q c)
theorem b_if2 {b : Bool} {z : Int} (h : z = if b then 1 else 0) (hz : z ≠ 0) : b = true := by
  cases b with
  | true => rfl
  | false => exact absurd h hz
theorem b_if3 {b : Bool} {z : Int} (h : z = if b then 1 else 0) (hz : z = 0) : ¬ b = true := by
  cases b with
  | true => rw [hz] at h; exact absurd h (by decide)
  | false => decide
theorem hMu_le {M : Nat → Nat → Prop} {C : Nat → Nat → Nat → Nat → Prop} {l : List Nat} {q : Nat} : ∀ {n : Nat}, hMu M C l q n ≤ n
  | 0 => Nat.le_refl _
  | n + 1 => by
    have ih := hMu_le (M := M) (C := C) (l := l) (q := q) (n := n)
    show hMu M C l q n + iP (hFr M C l (q + n) 0) 0 1 ≤ n + 1
    rcases Classical.em (hFr M C l (q + n) 0) with g | g
    · rw [iP_y g]; omega
    · rw [iP_n g]; omega
theorem lp_123 {ro : List (List Int32)} {d : Nat} {Q : Option Value → xH → Prop} {S : Nat} {M : Nat → Nat → Prop} {C : Nat → Nat → Nat → Nat → Prop} {l : List Nat} {x : Int32} {p : xH} (g0 : (rI p 13 7).toInt = (S : Int)) (hS7 : S ≤ 7) (hlS : l.length ≤ S) (hF : hsF p S M C l l.length S) (hx : x.toInt = (l.length : Int)) (K : ∀ z : Int32, z.toInt = ((hMu M C l l.length (S - l.length) : Nat) : Int) → Q (some (.int z)) p) : ∀ (n : Nat) (q : Int32) (b : Int32), ((l.length : Int) ≤ q.toInt) → (q.toInt ≤ S) → (b.toInt = ((hMu M C l l.length (q.toInt.toNat - l.length) : Nat) : Int)) → hP ro n d (10, 4, 1, 1, k123) 4 [(3, .int q), (2, .int b), (0, .ref 44), (1, .int x)] [] p Q := by
  intro n
  induction n with
  | zero => intros; exact hp_0
  | succ n ih =>
    intro q b hq1 hq2 hb
    have hbl := hMu_le (M := M) (C := C) (l := l) (q := l.length) (n := q.toInt.toNat - l.length)
    refine hp_s1 (pc' := 5) (st' := [.int q]) rfl rfl rfl ?_
    refine hp_s (pc' := 6) (st' := [.ref 44, .int q]) rfl rfl rfl ?_
    refine hp_getr (k := 0) (w := .ref 13) (pc' := 9) rfl rfl rfl rfl rfl ?_
    refine hp_get (k := 7) (pc' := 12) (v := (rI p 13 7)) rfl rfl rfl rfl rfl rfl ?_
    refine hp_ic (pc' := 15) (t := 40) (a := q.toInt) (b := (rI p 13 7).toInt) rfl rfl rfl rfl rfl (fun (h1 : (rI p 13 7).toInt ≤ q.toInt) => ?_) (fun (h2 : ¬ ((rI p 13 7).toInt ≤ q.toInt)) => ?_)
    ·
      refine hp_s (pc' := 41) (st' := [.int b]) rfl rfl rfl ?_
      refine hp_ri rfl rfl ?_
      exact K _ (by rw [hb, show q.toInt.toNat - l.length = S - l.length by omega])
    ·
      refine hp_s (pc' := 16) (st' := [.ref 44]) rfl rfl rfl ?_
      refine hp_getr (k := 3) (w := .ref 46) (pc' := 19) rfl rfl rfl rfl rfl ?_
      refine hp_s (pc' := 20) (st' := [.int x, .ref 46]) rfl rfl rfl ?_
      refine hp_s (pc' := 22) (st' := [.int 7, .int x, .ref 46]) rfl rfl rfl ?_
      refine hp_z (pc' := 23) (e := x * 7) (st' := [.ref 46]) rfl rfl rfl ?_
      intro z1 hz1
      have ez1 := i_mul hz1 (show x.toInt = x.toInt from rfl) (show (7 : Int32).toInt = 7 from by decide)
      refine hp_s (pc' := 24) (st' := [.int q, .int z1, .ref 46]) rfl rfl rfl ?_
      refine hp_z (pc' := 25) (e := z1 + q) (st' := [.ref 46]) rfl rfl rfl ?_
      intro z2 hz2
      have ez2 := i_add hz2 (show z1.toInt = z1.toInt from rfl) (show q.toInt = q.toInt from rfl)
      refine hp_ld (t := 100) (v := (rI p 46 z2.toInt.toNat)) rfl (.inl rfl) rfl rfl rfl ?_
      intro (g1a : 0 ≤ z2.toInt) (g1b : z2.toInt < 56)
      have q9 : (rI p 46 z2.toInt.toNat) = rI p 46 (7 * l.length + q.toInt.toNat) := by congr 1; omega
      refine hp_s (pc' := 27) (st' := [.int 1, .int (rI p 46 z2.toInt.toNat)]) rfl rfl rfl ?_
      refine hp_z (pc' := 28) (e := (rI p 46 z2.toInt.toNat) &&& 1) (st' := []) rfl rfl rfl ?_
      intro z3 hz3
      have hbit : z3.toInt = if bI (rI p 46 (7 * l.length + q.toInt.toNat)) 0 then 1 else 0 := by rw [hz3, q9]; exact bI_low
      have hf0 := hF q.toInt.toNat (by omega) (by omega) 0 (by decide)
      refine hp_if (pc' := 31) (t := 34) (a := z3.toInt) rfl rfl rfl rfl (fun (h3 : z3.toInt ≠ 0) => ?_) (fun (h4 : ¬ (z3.toInt ≠ 0)) => ?_)
      ·
        refine hp_inc (L := fun z_ => [(3, .int z_), (2, .int b), (0, .ref 44), (1, .int x)]) (pc' := 37) rfl rfl rfl (fun _ => rfl) rfl ?_
        intro z4 hz4
        have ez4 := i_add hz4 (show q.toInt = q.toInt from rfl) (show (Int32.ofInt 1).toInt = 1 from by decide)
        refine hp_go (pc' := 4) rfl rfl rfl ?_
        refine ih z4 b (by omega) (by omega) ?_
        rw [show z4.toInt.toNat - l.length = (q.toInt.toNat - l.length) + 1 by omega]
        show _ = ((hMu M C l l.length (q.toInt.toNat - l.length) + iP (hFr M C l (l.length + (q.toInt.toNat - l.length)) 0) 0 1 : Nat) : Int)
        rw [show l.length + (q.toInt.toNat - l.length) = q.toInt.toNat by omega]
        rw [iP_y (hf0.mp (b_if2 hbit (by omega))).2]; omega
      ·
        refine hp_inc (L := fun z_ => [(2, .int z_), (3, .int q), (0, .ref 44), (1, .int x)]) (pc' := 34) rfl rfl rfl (fun _ => rfl) rfl ?_
        intro z5 hz5
        have ez5 := i_add hz5 (show b.toInt = b.toInt from rfl) (show (Int32.ofInt 1).toInt = 1 from by decide)
        refine hp_inc (L := fun z_ => [(3, .int z_), (2, .int z5), (0, .ref 44), (1, .int x)]) (pc' := 37) rfl rfl rfl (fun _ => rfl) rfl ?_
        intro z6 hz6
        have ez6 := i_add hz6 (show q.toInt = q.toInt from rfl) (show (Int32.ofInt 1).toInt = 1 from by decide)
        refine hp_go (pc' := 4) rfl rfl rfl ?_
        refine ih z6 z5 (by omega) (by omega) ?_
        rw [show z6.toInt.toNat - l.length = (q.toInt.toNat - l.length) + 1 by omega]
        show _ = ((hMu M C l l.length (q.toInt.toNat - l.length) + iP (hFr M C l (l.length + (q.toInt.toNat - l.length)) 0) 0 1 : Nat) : Int)
        rw [show l.length + (q.toInt.toNat - l.length) = q.toInt.toNat by omega]
        rw [iP_n (fun g => b_if3 hbit (by omega) (hf0.mpr ⟨by decide, g⟩))]; omega
theorem s_mustWear {ro : List (List Int32)} {n d : Nat} {p : xH} {Q : Option Value → xH → Prop} (S : Nat) (M : Nat → Nat → Prop) (C : Nat → Nat → Nat → Nat → Prop) (l : List Nat) {x : Int32} {xi : Int} (hx : x.toInt = xi) (pre0 : (rI p 13 7).toInt = (S : Int)) (pre1 : S ≤ 7) (pre2 : xi = (l.length : Int)) (pre3 : l.length ≤ S) (pre4 : hsF p S M C l l.length S) (k0 : ∀ z : Int32, (z.toInt = ((hMu M C l l.length (S - l.length) : Nat) : Int)) → Q (some (.int z)) p) : hP ro n d (10, 4, 1, 1, k123) 0 (lv_args 0 [.ref 44, .int x]) [] p Q := by
  subst hx
  refine hp_id (ls := [(0, .ref 44), (1, .int x)]) ?_
  refine hp_s (pc' := 1) (st' := [.int 0]) rfl rfl rfl ?_
  refine hp_s (pc' := 2) (ls' := [(2, .int 0), (0, .ref 44), (1, .int x)]) (st' := []) rfl rfl rfl ?_
  refine hp_s (pc' := 3) (st' := [.int x]) rfl rfl rfl ?_
  refine hp_s (pc' := 4) (ls' := [(3, .int x), (2, .int 0), (0, .ref 44), (1, .int x)]) (st' := []) rfl rfl rfl ?_
  exact lp_123 (S := S) (M := M) (C := C) (l := l) (x := x) pre0 pre1 pre3 pre4 pre2 k0 n x 0 (by omega) (by omega) (by rw [show x.toInt.toNat - l.length = 0 by omega]; exact (show (0 : Int32).toInt = ((0 : Nat) : Int) from by decide))
theorem lp_122 {ro : List (List Int32)} {d : Nat} {Q : Option Value → xH → Prop} {p0 : xH} {S : Nat} {M : Nat → Nat → Prop} {C : Nat → Nat → Nat → Nat → Prop} {l : List Nat} {A : Nat} {x a : Int32} (g0 : (rI p0 13 7).toInt = (S : Int)) (hS7 : S ≤ 7) (hx : x.toInt = (l.length : Int)) (hlS : l.length < S) (ha : a.toInt = (A : Int)) (hA : A < 7) (hF0 : hsF p0 S M C l l.length S) (hKR : kR p0 M C l.length A S) (K1 : ∀ p2 : xH, hNt [(46, 9999)] p0 p2 → (∀ j, j < 7 * l.length + 7 → rI p2 46 j = rI p0 46 j) → hsF p2 S M C (A :: l) (l.length + 1) S → Q (some (.int 1)) p2) (K0 : ∀ p2 : xH, hNt [(46, 9999)] p0 p2 → (∀ j, j < 7 * l.length + 7 → rI p2 46 j = rI p0 46 j) → (∃ q, l.length < q ∧ q < S ∧ ∀ c, c < 7 → ¬ hFr M C (A :: l) q c) → Q (some (.int 0)) p2) : ∀ (n : Nat) (q : Int32) (b : Int32) (p : xH), ((l.length : Int) + 1 ≤ q.toInt) → (q.toInt ≤ S) → (hNt [(46, 9999)] p0 p) → (∀ j, j < 7 * l.length + 7 → rI p 46 j = rI p0 46 j) → (hsF p S M C (A :: l) (l.length + 1) q.toInt.toNat) → hP ro n d (10, 5, 1, 2, k122) 4 [(3, .int q), (4, .int b), (0, .ref 44), (1, .int x), (2, .int a)] [] p Q := by
  intro n
  induction n with
  | zero => intros; exact hp_0
  | succ n ih =>
    intro q b p hq1 hq2 hN hO hF2
    have e13 : (rI p 13 7).toInt = (S : Int) := by rw [hN.int (r := 13) (k := 7) rfl]; exact g0
    have hF : hsF p S M C l l.length S := fun u u1 u2 c hc => by rw [hO _ (by omega)]; exact hF0 u u1 u2 c hc
    refine hp_s1 (pc' := 5) (st' := [.int q]) rfl rfl rfl ?_
    refine hp_s (pc' := 6) (st' := [.ref 44, .int q]) rfl rfl rfl ?_
    refine hp_getr (k := 0) (w := .ref 13) (pc' := 9) rfl rfl rfl rfl rfl ?_
    refine hp_get (k := 7) (pc' := 12) (v := (rI p 13 7)) rfl rfl rfl rfl rfl rfl ?_
    refine hp_ic (pc' := 15) (t := 75) (a := q.toInt) (b := (rI p 13 7).toInt) rfl rfl rfl rfl rfl (fun (h1 : (rI p 13 7).toInt ≤ q.toInt) => ?_) (fun (h2 : ¬ ((rI p 13 7).toInt ≤ q.toInt)) => ?_)
    ·
      refine hp_s (pc' := 76) (st' := [.int 1]) rfl rfl rfl ?_
      refine hp_rb rfl rfl (fun _ => ?_)
      exact K1 p hN hO (by rw [show q.toInt.toNat = S by omega] at hF2; exact hF2)
    ·
      refine hp_s (pc' := 16) (st' := [.ref 44]) rfl rfl rfl ?_
      refine hp_getr (k := 3) (w := .ref 46) (pc' := 19) rfl rfl rfl rfl rfl ?_
      refine hp_s (pc' := 20) (st' := [.int x, .ref 46]) rfl rfl rfl ?_
      refine hp_s (pc' := 22) (st' := [.int 7, .int x, .ref 46]) rfl rfl rfl ?_
      refine hp_z (pc' := 23) (e := x * 7) (st' := [.ref 46]) rfl rfl rfl ?_
      intro z1 hz1
      have ez1 := i_mul hz1 (show x.toInt = x.toInt from rfl) (show (7 : Int32).toInt = 7 from by decide)
      refine hp_s (pc' := 24) (st' := [.int q, .int z1, .ref 46]) rfl rfl rfl ?_
      refine hp_z (pc' := 25) (e := z1 + q) (st' := [.ref 46]) rfl rfl rfl ?_
      intro z2 hz2
      have ez2 := i_add hz2 (show z1.toInt = z1.toInt from rfl) (show q.toInt = q.toInt from rfl)
      refine hp_ld (t := 100) (v := (rI p 46 z2.toInt.toNat)) rfl (.inl rfl) rfl rfl rfl ?_
      intro (g1a : 0 ≤ z2.toInt) (g1b : z2.toInt < 56)
      have q8 : (rI p 46 z2.toInt.toNat) = rI p 46 (7 * l.length + q.toInt.toNat) := by congr 1; omega
      refine hp_s (pc' := 27) (st' := [.ref 44, .int (rI p 46 z2.toInt.toNat)]) rfl rfl rfl ?_
      refine hp_getr (k := 2) (w := .ref 45) (pc' := 30) rfl rfl rfl rfl rfl ?_
      refine hp_s (pc' := 31) (st' := [.int x, .ref 45, .int (rI p 46 z2.toInt.toNat)]) rfl rfl rfl ?_
      refine hp_s (pc' := 33) (st' := [.int 7, .int x, .ref 45, .int (rI p 46 z2.toInt.toNat)]) rfl rfl rfl ?_
      refine hp_z (pc' := 34) (e := x * 7) (st' := [.ref 45, .int (rI p 46 z2.toInt.toNat)]) rfl rfl rfl ?_
      intro z3 hz3
      have ez3 := i_mul hz3 (show x.toInt = x.toInt from rfl) (show (7 : Int32).toInt = 7 from by decide)
      refine hp_s (pc' := 35) (st' := [.int a, .int z3, .ref 45, .int (rI p 46 z2.toInt.toNat)]) rfl rfl rfl ?_
      refine hp_z (pc' := 36) (e := z3 + a) (st' := [.ref 45, .int (rI p 46 z2.toInt.toNat)]) rfl rfl rfl ?_
      intro z4 hz4
      have ez4 := i_add hz4 (show z3.toInt = z3.toInt from rfl) (show a.toInt = a.toInt from rfl)
      refine hp_s (pc' := 38) (st' := [.int 7, .int z4, .ref 45, .int (rI p 46 z2.toInt.toNat)]) rfl rfl rfl ?_
      refine hp_z (pc' := 39) (e := z4 * 7) (st' := [.ref 45, .int (rI p 46 z2.toInt.toNat)]) rfl rfl rfl ?_
      intro z5 hz5
      have ez5 := i_mul hz5 (show z4.toInt = z4.toInt from rfl) (show (7 : Int32).toInt = 7 from by decide)
      refine hp_s (pc' := 40) (st' := [.int q, .int z5, .ref 45, .int (rI p 46 z2.toInt.toNat)]) rfl rfl rfl ?_
      refine hp_z (pc' := 41) (e := z5 + q) (st' := [.ref 45, .int (rI p 46 z2.toInt.toNat)]) rfl rfl rfl ?_
      intro z6 hz6
      have ez6 := i_add hz6 (show z5.toInt = z5.toInt from rfl) (show q.toInt = q.toInt from rfl)
      refine hp_ld (t := 100) (v := (rI p 45 z6.toInt.toNat)) rfl (.inl rfl) rfl rfl rfl ?_
      intro (g2a : 0 ≤ z6.toInt) (g2b : z6.toInt < 343)
      have q9 : (rI p 45 z6.toInt.toNat) = rI p0 45 (49 * l.length + 7 * A + q.toInt.toNat) := by rw [hN.int (r := 45) rfl]; congr 1; omega
      refine hp_s (pc' := 43) (st' := [.int (-1), .int (rI p 45 z6.toInt.toNat), .int (rI p 46 z2.toInt.toNat)]) rfl rfl rfl ?_
      refine hp_z (pc' := 44) (e := (rI p 45 z6.toInt.toNat) ^^^ (-1)) (st' := [.int (rI p 46 z2.toInt.toNat)]) rfl rfl rfl ?_
      intro z7 hz7
      refine hp_z (pc' := 45) (e := (rI p 46 z2.toInt.toNat) &&& z7) (st' := []) rfl rfl rfl ?_
      intro z8 hz8
      have hfz : ∀ c, c < 32 → (bI z8 c = true ↔ c < 7 ∧ hFr M C (A :: l) q.toInt.toNat c) := fun c hc => by
        rw [hz8, bI_and, hz7, bI_no _ hc, q8, q9, hFr_s]
        have u1 := hF q.toInt.toNat (by omega) (by omega) c hc
        have u2 := hKR q.toInt.toNat (by omega) (by omega) c hc
        rw [Bool.and_eq_true, u1]
        constructor
        · rintro ⟨⟨a1, a2⟩, a3⟩
          exact ⟨a1, a2, fun g => by rw [u2.mpr ⟨a1, a2.1, g⟩] at a3; cases a3⟩
        · rintro ⟨a1, a2, a3⟩
          refine ⟨⟨a1, a2⟩, ?_⟩
          cases hb : bI (rI p0 45 (49 * l.length + 7 * A + q.toInt.toNat)) c with
          | false => rfl
          | true => exact absurd (u2.mp hb).2.2 a3
      refine hp_s (pc' := 47) (ls' := [(4, .int z8), (3, .int q), (0, .ref 44), (1, .int x), (2, .int a)]) (st' := []) rfl rfl rfl ?_
      refine hp_s (pc' := 49) (st' := [.int z8]) rfl rfl rfl ?_
      refine hp_if (pc' := 52) (t := 54) (a := z8.toInt) rfl rfl rfl rfl (fun (h3 : z8.toInt ≠ 0) => ?_) (fun (h4 : ¬ (z8.toInt ≠ 0)) => ?_)
      ·
        refine hp_s (pc' := 55) (st' := [.ref 44]) rfl rfl rfl ?_
        refine hp_getr (k := 3) (w := .ref 46) (pc' := 58) rfl rfl rfl rfl rfl ?_
        refine hp_s (pc' := 59) (st' := [.int x, .ref 46]) rfl rfl rfl ?_
        refine hp_s (pc' := 60) (st' := [.int 1, .int x, .ref 46]) rfl rfl rfl ?_
        refine hp_z (pc' := 61) (e := x + 1) (st' := [.ref 46]) rfl rfl rfl ?_
        intro z9 hz9
        have ez9 := i_add hz9 (show x.toInt = x.toInt from rfl) (show (1 : Int32).toInt = 1 from by decide)
        refine hp_s (pc' := 63) (st' := [.int 7, .int z9, .ref 46]) rfl rfl rfl ?_
        refine hp_z (pc' := 64) (e := z9 * 7) (st' := [.ref 46]) rfl rfl rfl ?_
        intro z10 hz10
        have ez10 := i_mul hz10 (show z9.toInt = z9.toInt from rfl) (show (7 : Int32).toInt = 7 from by decide)
        refine hp_s (pc' := 65) (st' := [.int q, .int z10, .ref 46]) rfl rfl rfl ?_
        refine hp_z (pc' := 66) (e := z10 + q) (st' := [.ref 46]) rfl rfl rfl ?_
        intro z11 hz11
        have ez11 := i_add hz11 (show z10.toInt = z10.toInt from rfl) (show q.toInt = q.toInt from rfl)
        refine hp_s (pc' := 68) (st' := [.int z8, .int z11, .ref 46]) rfl rfl rfl ?_
        refine hp_st (t := 100) rfl (.inl rfl) rfl rfl ?_
        intro p1 wp1 (p1a : 0 ≤ z11.toInt) (p1b : z11.toInt < 56) ep1
        refine hp_inc (L := fun z_ => [(3, .int z_), (4, .int z8), (0, .ref 44), (1, .int x), (2, .int a)]) (pc' := 72) rfl rfl rfl (fun _ => rfl) rfl ?_
        intro z12 hz12
        have ez12 := i_add hz12 (show q.toInt = q.toInt from rfl) (show (Int32.ofInt 1).toInt = 1 from by decide)
        refine hp_go (pc' := 4) rfl rfl rfl ?_
        refine ih z12 z8 p1 (by omega) (by omega) (by rw [ep1]; exact (hNt.w hN rfl)) (fun j hj => ?_) (fun u u1 u2 c hc => ?_)
        · rw [ep1, rI_ne (fun _ => by omega)]; exact hO j hj
        · rw [ep1, rI_w wp1 (by show _ < 56; omega)]
          by_cases g : u = q.toInt.toNat
          · rw [if_pos (by omega), g]; exact hfz c hc
          · rw [if_neg (by omega)]; exact hF2 u u1 (by omega) c hc
      ·
        refine hp_s (pc' := 53) (st' := [.int 0]) rfl rfl rfl ?_
        refine hp_rb rfl rfl (fun _ => ?_)
        have hz0 : ∀ c, c < 32 → bI z8 c = false := bI_zero.mp (i_z (by omega))
        exact K0 p hN hO ⟨q.toInt.toNat, by omega, by omega, fun c hc g => by have u := (hfz c (by omega)).mpr ⟨hc, g⟩; rw [hz0 c (by omega)] at u; cases u⟩
theorem s_leavesFree {ro : List (List Int32)} {n d : Nat} {p : xH} {Q : Option Value → xH → Prop} (S : Nat) (M : Nat → Nat → Prop) (C : Nat → Nat → Nat → Nat → Prop) (l : List Nat) {x : Int32} {xi : Int} {a : Int32} {ai : Int} (hx : x.toInt = xi) (ha : a.toInt = ai) (pre0 : (rI p 13 7).toInt = (S : Int)) (pre1 : S ≤ 7) (pre2 : xi = (l.length : Int)) (pre3 : l.length < S) (pre4 : 0 ≤ ai) (pre5 : ai < 7) (pre6 : hsF p S M C l l.length S) (pre7 : kR p M C l.length ai.toNat S) (k0 : ∀ p2 : xH, (hNt [(46, 9999)] p p2) → (∀ j, j < 7 * l.length + 7 → rI p2 46 j = rI p 46 j) → (hsF p2 S M C (ai.toNat :: l) (l.length + 1) S) → Q (some (.int (1))) p2) (k1 : ∀ p2 : xH, (hNt [(46, 9999)] p p2) → (∀ j, j < 7 * l.length + 7 → rI p2 46 j = rI p 46 j) → (∃ q, l.length < q ∧ q < S ∧ ∀ c, c < 7 → ¬ hFr M C (ai.toNat :: l) q c) → Q (some (.int (0))) p2) : hP ro n d (10, 5, 1, 2, k122) 0 (lv_args 0 [.ref 44, .int x, .int a]) [] p Q := by
  subst hx
  subst ha
  refine hp_id (ls := [(0, .ref 44), (1, .int x), (2, .int a)]) ?_
  refine hp_s (pc' := 1) (st' := [.int x]) rfl rfl rfl ?_
  refine hp_s (pc' := 2) (st' := [.int 1, .int x]) rfl rfl rfl ?_
  refine hp_z (pc' := 3) (e := x + 1) (st' := []) rfl rfl rfl ?_
  intro z1 hz1
  have ez1 := i_add hz1 (show x.toInt = x.toInt from rfl) (show (1 : Int32).toInt = 1 from by decide)
  refine hp_s (pc' := 4) (ls' := [(3, .int z1), (0, .ref 44), (1, .int x), (2, .int a)]) (st' := []) rfl rfl rfl ?_
  refine hp_ls (ls' := [(3, .int z1), (4, .int 0), (0, .ref 44), (1, .int x), (2, .int a)]) rfl rfl ⟨rfl, rfl, rfl, rfl, trivial⟩ ?_
  exact lp_122 (p0 := p) (S := S) (M := M) (C := C) (l := l) (A := a.toInt.toNat) (x := x) (a := a) pre0 pre1 pre2 pre3 (by omega) (by omega) pre6 pre7 (fun p2 u1 u2 u3 => k0 p2 u1 u2 u3) (fun p2 u1 u2 u3 => k1 p2 u1 u2 u3) n _ (0 : Int32) p (by omega) (by omega) (hNt.refl _ _) (fun _ _ => rfl) (fun u u1 u2 => absurd u2 (by omega))
