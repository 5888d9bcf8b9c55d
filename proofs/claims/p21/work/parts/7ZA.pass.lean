/-! contracts of methods, walked -/
/-- the first of whom it holds -/
def hFst (A : Int → Prop) (lo hi bad r : Int) : Prop := (lo ≤ r ∧ r < hi ∧ A r ∧ ∀ j, lo ≤ j → j < r → ¬ A j) ∨ ((∀ j, lo ≤ j → j < hi → ¬ A j) ∧ r = bad)
theorem hFst_one {A B : Int → Prop} {lo hi bad r s : Int} (e : ∀ j, lo ≤ j → j < hi → (A j ↔ B j)) (h : hFst A lo hi bad r) (g : hFst B lo hi bad s) : r = s := by
  rcases h with ⟨a1, a2, a3, a4⟩ | ⟨a1, a2⟩ <;> rcases g with ⟨b1, b2, b3, b4⟩ | ⟨b1, b2⟩
  · rcases Int.lt_trichotomy r s with h | h | h
    · exact absurd ((e r a1 a2).mp a3) (b4 r a1 h)
    · exact h
    · exact absurd ((e s b1 b2).mpr b3) (a4 s b1 h)
  · exact absurd ((e r a1 a2).mp a3) (b1 r a1 a2)
  · exact absurd ((e s b1 b2).mpr b3) (a1 s b1 b2)
  · rw [a2, b2]
def passX (p : xH) (lo : Option (List yN)) (x y : Nat) (c : Int) : Prop := hWr (rI p 15 x) (Int32.ofInt c) ∧ lAl lo (bcn (hSn (rI p 14 x) (Int32.ofInt c) ^^^ hSn (rI p 14 y) (rI p 2 y))) (hSn (rI p 14 x) (Int32.ofInt c)) (hSn (rI p 14 y) (rI p 2 y)) (hWn (Int32.ofInt c) + hWn (rI p 2 y)) (rI p 13 9) (rI p 13 8)
def passM (p : xH) (lo : Option (List yN)) (x y : Nat) (c : Int) : Prop := hWr (rI p 67 (7 + x)) (Int32.ofInt c) ∧ lAl lo (bcn (hSn (rI p 67 x) (Int32.ofInt c) ^^^ mS p y)) (hSn (rI p 67 x) (Int32.ofInt c)) (mS p y) (hWn (Int32.ofInt c) + hWn (rI p 71 y)) (rI p 67 22) (rI p 67 21)
abbrev F_ps : List (Nat × Nat) := [(14, 9999), (15, 9999), (2, 9999), (13, 9), (13, 8)]
theorem passX_sm {p p2 : xH} {lo : Option (List yN)} (h : hSm F_ps p p2) : passX p2 lo = passX p lo := by
  funext x y c
  unfold passX
  rw [h.int (r := 15) rfl, h.int (r := 14) rfl, h.int (r := 14) rfl, h.int (r := 2) rfl, h.int (r := 13) (k := 9) rfl, h.int (r := 13) (k := 8) rfl]
theorem passM_sm {p p2 : xH} {lo : Option (List yN)} (h : hSm F_pm p p2) : passM p2 lo = passM p lo := by
  have e67 : ∀ j, rI p2 67 j = rI p 67 j := fun j => h.int (r := 67) rfl
  have e71 : ∀ j, rI p2 71 j = rI p 71 j := fun j => h.int (r := 71) rfl
  funext x y c
  unfold passM mS
  rw [e67, e67, e67, e67, e67, e71]
theorem lp_56 {ro : List (List Int32)} {d : Nat} {Q : Option Value → xH → Prop} {p0 : xH} {lo : Option (List yN)} {x y : Int32} (g0 : lXo p0 lo) (g1 : ∀ j, -1 ≤ (rI p0 2 j).toInt) (K : ∀ (z : Int32) (p2 : xH), hNt T_h p0 p2 → hFst (passX p0 lo x.toInt.toNat y.toInt.toNat) (-1) 6 (-2) z.toInt → Q (some (.int z)) p2) : ∀ (n : Nat) (c : Int32) (p : xH), (-1 ≤ c.toInt) → (c.toInt ≤ 6) → (∀ j, -1 ≤ j → j < c.toInt → ¬ passX p0 lo x.toInt.toNat y.toInt.toNat j) → (hNt T_h p0 p) → hP ro n d (4, 4, 1, 1, k56) 2 [(3, .int c), (0, .ref 32), (1, .int x), (2, .int y)] [] p Q := by
  intro n
  induction n with
  | zero => intros; exact hp_0
  | succ n ih =>
    intro c p hc1 hc2 hm hN
    have hlo : lXo p lo := lXo_nt hN rfl (fun _ => rfl) (fun _ => rfl) g0
    have eP : passX p lo = passX p0 lo := passX_sm (hN.sm (by decide))
    have e2y : -1 ≤ (rI p 2 y.toInt.toNat).toInt := by rw [hN.int (r := 2) rfl]; exact g1 _
    have ec : Int32.ofInt c.toInt = c := by rw [Int32.ofInt_toInt]
    refine hp_s1 (pc' := 3) (st' := [.int c]) rfl rfl rfl ?_
    refine hp_s (pc' := 5) (st' := [.int 6, .int c]) rfl rfl rfl ?_
    refine hp_ic (pc' := 8) (t := 46) (a := c.toInt) (b := 6) rfl rfl rfl rfl (by decide) (fun (h1 : 6 ≤ c.toInt) => ?_) (fun (h2 : ¬ (6 ≤ c.toInt)) => ?_)
    ·
      refine hp_s (pc' := 48) (st' := [.int (-2)]) rfl rfl rfl ?_
      refine hp_ri rfl rfl ?_
      exact K _ p hN (Or.inr ⟨fun j j1 j2 => hm j j1 (by omega), by decide⟩)
    ·
      refine hp_s (pc' := 9) (st' := [.ref 32]) rfl rfl rfl ?_
      refine hp_getr (k := 0) (w := .ref 13) (pc' := 12) rfl rfl rfl rfl rfl ?_
      refine hp_s (pc' := 13) (st' := [.int x, .ref 13]) rfl rfl rfl ?_
      refine hp_s (pc' := 14) (st' := [.int c, .int x, .ref 13]) rfl rfl rfl ?_
      refine hp_cv (r := 13) (o := 1) (kd := 1) (as := [.int x, .int c]) (rest := []) (pc' := 17) rfl rfl rfl rfl rfl rfl rfl rfl rfl (fun d1 => ?_)
      refine s_mayWear (xi := x.toInt) rfl (yi := c.toInt) rfl ?_ ?_
      ·
        intro h3
        refine hp_id (st := [.int 1]) ?_
        refine hp_go (pc' := 20) rfl rfl rfl ?_
        refine hp_s (pc' := 21) (st' := [.ref 32]) rfl rfl rfl ?_
        refine hp_s (pc' := 22) (st' := [.int x, .ref 32]) rfl rfl rfl ?_
        refine hp_s (pc' := 23) (st' := [.int c, .int x, .ref 32]) rfl rfl rfl ?_
        refine hp_s (pc' := 24) (st' := [.int y, .int c, .int x, .ref 32]) rfl rfl rfl ?_
        refine hp_s (pc' := 25) (st' := [.ref 32, .int y, .int c, .int x, .ref 32]) rfl rfl rfl ?_
        refine hp_getr (k := 0) (w := .ref 13) (pc' := 28) rfl rfl rfl rfl rfl ?_
        refine hp_s (pc' := 29) (st' := [.int y, .ref 13, .int y, .int c, .int x, .ref 32]) rfl rfl rfl ?_
        refine hp_cv (r := 13) (o := 1) (kd := 1) (as := [.int y]) (rest := [.int y, .int c, .int x, .ref 32]) (pc' := 32) rfl rfl rfl rfl rfl rfl rfl rfl rfl (fun d2 => ?_)
        refine s_hatOf (xi := y.toInt) rfl ?_
        intro h4 h5
        refine hp_id (st := [.int (rI p 2 y.toInt.toNat), .int y, .int c, .int x, .ref 32]) ?_
        refine hp_cv (r := 32) (o := 4) (kd := 1) (as := [.int x, .int c, .int y, .int (rI p 2 y.toInt.toNat)]) (rest := []) (pc' := 35) rfl rfl rfl rfl rfl rfl rfl rfl rfl (fun d3 => ?_)
        refine s_isWith lo (xi := x.toInt) rfl (fi := c.toInt) rfl (yi := y.toInt) rfl (gi := (rI p 2 y.toInt.toNat).toInt) rfl (by first | assumption | omega) (by first | assumption | omega) (by first | assumption | omega) ?_ ?_
        ·
          intro p1 h6 h7
          refine hp_id (st := [.int 1]) ?_
          refine hp_go (pc' := 38) rfl rfl rfl ?_
          refine hp_s (pc' := 39) (st' := [.int c]) rfl rfl rfl ?_
          refine hp_ri rfl rfl ?_
          exact K _ _ (hN.trans h6) (Or.inl ⟨by omega, by omega, by rw [← eP]; exact ⟨by rw [ec]; exact h3, by rw [ec]; exact h7⟩, hm⟩)
        ·
          intro p2 h8 h9
          refine hp_id (st := [.int 0]) ?_
          refine hp_go (pc' := 40) rfl rfl rfl ?_
          refine hp_inc (L := fun z_ => [(3, .int z_), (0, .ref 32), (1, .int x), (2, .int y)]) (pc' := 43) rfl rfl rfl (fun _ => rfl) rfl ?_
          intro z1 hz1
          have ez1 := i_add hz1 (show c.toInt = c.toInt from rfl) (show (Int32.ofInt 1).toInt = 1 from by decide)
          refine hp_go (pc' := 2) rfl rfl rfl ?_
          refine ih z1 p2 (by omega) (by omega) (fun j j1 j2 => ?_) (hN.trans h8)
          by_cases g : j < c.toInt
          · exact hm j j1 g
          · rw [show j = c.toInt by omega]
            rw [← eP]
            intro g2
            have q := g2.2
            rw [ec] at q
            exact h9 q
      ·
        intro h10
        refine hp_id (st := [.int 0]) ?_
        refine hp_go (pc' := 40) rfl rfl rfl ?_
        refine hp_inc (L := fun z_ => [(3, .int z_), (0, .ref 32), (1, .int x), (2, .int y)]) (pc' := 43) rfl rfl rfl (fun _ => rfl) rfl ?_
        intro z2 hz2
        have ez2 := i_add hz2 (show c.toInt = c.toInt from rfl) (show (Int32.ofInt 1).toInt = 1 from by decide)
        refine hp_go (pc' := 2) rfl rfl rfl ?_
        refine ih z2 p (by omega) (by omega) (fun j j1 j2 => ?_) hN
        by_cases g : j < c.toInt
        · exact hm j j1 g
        · rw [show j = c.toInt by omega]
          rw [← eP]
          intro g2
          have q := g2.1
          rw [ec] at q
          exact h10 q
theorem s_hatToPass {ro : List (List Int32)} {n d : Nat} {p : xH} {Q : Option Value → xH → Prop} (lo : Option (List yN)) {x : Int32} {xi : Int} {y : Int32} {yi : Int} (hx : x.toInt = xi) (hy : y.toInt = yi) (pre0 : lXo p lo) (pre1 : ∀ j, -1 ≤ (rI p 2 j).toInt) (k0 : ∀ z : Int32, ∀ p2 : xH, (hNt T_h p p2) → (hFst (passX p lo xi.toNat yi.toNat) (-1) 6 (-2) z.toInt) → Q (some (.int z)) p2) : hP ro n d (4, 4, 1, 1, k56) 0 (lv_args 0 [.ref 32, .int x, .int y]) [] p Q := by
  subst hx
  subst hy
  refine hp_id (ls := [(0, .ref 32), (1, .int x), (2, .int y)]) ?_
  refine hp_s (pc' := 1) (st' := [.int (-1)]) rfl rfl rfl ?_
  refine hp_s (pc' := 2) (ls' := [(3, .int (-1)), (0, .ref 32), (1, .int x), (2, .int y)]) (st' := []) rfl rfl rfl ?_
  exact lp_56 (p0 := p) (x := x) (y := y) pre0 pre1 (fun z p2 nt h => k0 z p2 nt h) n (-1) p (by have h00 : (-1 : Int32).toInt = -1 := (by decide); omega) (by have h00 : (-1 : Int32).toInt = -1 := (by decide); omega) (fun j j1 j2 => absurd j2 (by have h00 : (-1 : Int32).toInt = -1 := (by decide); omega)) (hNt.refl _ _)
theorem X_pass {ro : List (List Int32)} {n d : Nat} {p : xH} {Q : Option Value → xH → Prop} (lo : Option (List yN)) {x : Int32} {xi : Int} (hx : x.toInt = xi) (pre0 : lXo p lo) (pre1 : ∀ j, -1 ≤ (rI p 2 j).toInt) (k0 : (¬ (0 ≤ xi ∧ xi / 10 < (rI p 13 7).toInt ∧ xi % 10 < (rI p 13 7).toInt ∧ xi / 10 ≠ xi % 10)) → Q (some (.int (-2000000000))) p) (k1 : ∀ z : Int32, ∀ p2 : xH, (hNt T_h p p2) → (0 ≤ xi) → (xi / 10 < (rI p 13 7).toInt) → (xi % 10 < (rI p 13 7).toInt) → (xi / 10 ≠ xi % 10) → (hFst (passX p lo (xi / 10).toNat (xi % 10).toNat) (-1) 6 (-2) z.toInt) → Q (some (.int z)) p2) : hP ro n d (11, 2, 1, 1, k148) 0 (lv_args 0 [.ref 0, .int x]) [] p Q := by
  subst hx
  refine hp_id (ls := [(0, .ref 0), (1, .int x)]) ?_
  refine hp_s (pc' := 1) (st' := [.ref 0]) rfl rfl rfl ?_
  refine hp_getr (k := 4) (w := .ref 13) (pc' := 4) rfl rfl rfl rfl rfl ?_
  refine hp_s (pc' := 5) (st' := [.int x, .ref 13]) rfl rfl rfl ?_
  refine hp_cv (r := 13) (o := 1) (kd := 1) (as := [.int x]) (rest := []) (pc' := 8) rfl rfl rfl rfl rfl rfl rfl rfl rfl (fun d1 => ?_)
  refine s_hasTwo (xi := x.toInt) rfl ?_ ?_
  ·
    intro h1 h2 h3 h4
    refine hp_id (st := [.int 1]) ?_
    refine hp_go (pc' := 14) rfl rfl rfl ?_
    refine hp_s (pc' := 15) (st' := [.ref 0]) rfl rfl rfl ?_
    refine hp_getr (k := 7) (w := .ref 32) (pc' := 18) rfl rfl rfl rfl rfl ?_
    refine hp_s (pc' := 19) (st' := [.int x, .ref 32]) rfl rfl rfl ?_
    refine hp_s (pc' := 21) (st' := [.int 10, .int x, .ref 32]) rfl rfl rfl ?_
    refine hp_z (pc' := 22) (e := x / 10) (st' := [.ref 32]) rfl rfl rfl ?_
    intro z1 hz1
    have ez1 := i_div hz1 (show x.toInt = x.toInt from rfl) (show (10 : Int32).toInt = 10 from by decide) (by decide)
    refine hp_s (pc' := 23) (st' := [.int x, .int z1, .ref 32]) rfl rfl rfl ?_
    refine hp_s (pc' := 25) (st' := [.int 10, .int x, .int z1, .ref 32]) rfl rfl rfl ?_
    refine hp_z (pc' := 26) (e := x - x / 10 * 10) (st' := [.int z1, .ref 32]) rfl rfl rfl ?_
    intro z2 hz2
    have ez2 := i_rem hz2 (show x.toInt = x.toInt from rfl) (show (10 : Int32).toInt = 10 from by decide) (by decide)
    refine hp_cv (r := 32) (o := 4) (kd := 1) (as := [.int z1, .int z2]) (rest := []) (pc' := 29) rfl rfl rfl rfl rfl rfl rfl rfl rfl (fun d2 => ?_)
    refine s_hatToPass lo (xi := (x.toInt / 10)) (by omega) (yi := (x.toInt % 10)) (by omega) (by first | assumption | omega) (by first | assumption | omega) ?_
    intro y1 p1 h5 h6
    refine hp_id (st := [.int y1]) ?_
    refine hp_ri rfl rfl ?_
    first | (exact k0 (by first | assumption | omega)) | (exact k1 _ _ (by first | assumption | omega) (by first | assumption | omega) (by first | assumption | omega) (by first | assumption | omega) (by first | assumption | omega) (by first | assumption | omega)) | (exfalso; omega)
  ·
    intro h7
    refine hp_id (st := [.int 0]) ?_
    refine hp_go (pc' := 11) rfl rfl rfl ?_
    refine hp_s (pc' := 13) (st' := [.int (-2000000000)]) rfl rfl rfl ?_
    refine hp_ri rfl rfl ?_
    first | (exact k0 (by first | assumption | omega)) | (exact k1 _ _ (by first | assumption | omega) (by first | assumption | omega) (by first | assumption | omega) (by first | assumption | omega) (by first | assumption | omega) (by first | assumption | omega)) | (exfalso; omega)
theorem lp_235 {ro : List (List Int32)} {d : Nat} {Q : Option Value → xH → Prop} {p0 : xH} {lo : Option (List yN)} {x y v : Int32} (g0 : lMo p0 lo) (g1 : ∀ j, 0 ≤ (rI p0 67 j).toInt ∧ (rI p0 67 j).toInt < 64) (g2 : ∀ j, -1 ≤ (rI p0 71 j).toInt ∧ (rI p0 71 j).toInt < 6) (g3 : 0 ≤ (rI p0 66 6).toInt) (g4 : (rI p0 66 6).toInt ≤ 7) (hx : 0 ≤ x.toInt ∧ x.toInt < 7) (hy : 0 ≤ y.toInt ∧ y.toInt < 7) (K : ∀ (z : Int32) (p2 : xH), hNt T_aa p0 p2 → hFst (passM p0 lo x.toInt.toNat y.toInt.toNat) (-1) 6 (-2) z.toInt → Q (some (.int z)) p2) : ∀ (n : Nat) (c : Int32) (p : xH), (-1 ≤ c.toInt) → (c.toInt ≤ 6) → (∀ j, -1 ≤ j → j < c.toInt → ¬ passM p0 lo x.toInt.toNat y.toInt.toNat j) → (hNt T_aa p0 p) → hP ro n d (12, 5, 1, 1, k235) 24 [(4, .int c), (0, .ref 66), (1, .int v), (2, .int x), (3, .int y)] [] p Q := by
  intro n
  induction n with
  | zero => intros; exact hp_0
  | succ n ih =>
    intro c p hc1 hc2 hm hN
    refine hp_hw (fun wp => ?_)
    have e6 : (rI p 66 6).toInt = (rI p0 66 6).toInt := by rw [hN.int (r := 66) (k := 6) rfl]
    have hlo : lMo p lo := lMo_nt hN rfl (fun _ => rfl) g0
    have e67 : ∀ j, 0 ≤ (rI p 67 j).toInt ∧ (rI p 67 j).toInt < 64 := fun j => by rw [hN.int (r := 67) rfl]; exact g1 j
    have e71 : ∀ j, -1 ≤ (rI p 71 j).toInt ∧ (rI p 71 j).toInt < 6 := fun j => by rw [hN.int (r := 71) rfl]; exact g2 j
    have eP : passM p lo = passM p0 lo := passM_sm (hN.sm (by decide))
    have ec : Int32.ofInt c.toInt = c := by rw [Int32.ofInt_toInt]
    have bx := e67 x.toInt.toNat
    have cy := e71 y.toInt.toNat
    have by_ := e67 y.toInt.toNat
    obtain ⟨hxa, hxb⟩ := hx
    obtain ⟨hya, hyb⟩ := hy
    refine hp_s1 (pc' := 26) (st' := [.int c]) rfl rfl rfl ?_
    refine hp_s (pc' := 28) (st' := [.int 6, .int c]) rfl rfl rfl ?_
    refine hp_ic (pc' := 31) (t := 97) (a := c.toInt) (b := 6) rfl rfl rfl rfl (by decide) (fun (h1 : 6 ≤ c.toInt) => ?_) (fun (h2 : ¬ (6 ≤ c.toInt)) => ?_)
    ·
      refine hp_s (pc' := 99) (st' := [.int (-2)]) rfl rfl rfl ?_
      refine hp_ri rfl rfl ?_
      exact K _ p hN (Or.inr ⟨fun j j1 j2 => hm j j1 (by omega), by decide⟩)
    ·
      refine hp_s (pc' := 32) (st' := [.ref 66]) rfl rfl rfl ?_
      refine hp_s (pc' := 33) (st' := [.int x, .ref 66]) rfl rfl rfl ?_
      refine hp_s (pc' := 35) (st' := [.int c, .int x, .ref 66]) rfl rfl rfl ?_
      refine hp_s (pc' := 36) (st' := [.int 1, .int c, .int x, .ref 66]) rfl rfl rfl ?_
      refine hp_z (pc' := 37) (e := c + 1) (st' := [.int x, .ref 66]) rfl rfl rfl ?_
      intro z1 hz1
      have ez1 := i_add hz1 (show c.toInt = c.toInt from rfl) (show (1 : Int32).toInt = 1 from by decide)
      refine hp_cv (r := 66) (o := 12) (kd := 1) (as := [.int x, .int z1]) (rest := []) (pc' := 40) rfl rfl rfl rfl rfl rfl rfl rfl rfl (fun d1 => ?_)
      refine s_mayWearM (xi := x.toInt) rfl (yi := z1.toInt) rfl (by first | assumption | omega) (by first | assumption | omega) (by first | assumption | omega) (by first | assumption | omega) ?_ ?_
      ·
        intro h3
        have hmw : hWr (rI p 67 (7 + x.toInt.toNat)) c := by
          have q := h3
          rw [show (7 + x.toInt).toNat = 7 + x.toInt.toNat by omega, show z1 - 1 = c from Int32.toInt_inj.mp (by rw [i_m1 (by omega)]; omega)] at q
          exact q
        refine hp_id (st := [.int 1]) ?_
        refine hp_go (pc' := 43) rfl rfl rfl ?_
        refine hp_s (pc' := 44) (st' := [.ref 66]) rfl rfl rfl ?_
        refine hp_s (pc' := 45) (st' := [.ref 66, .ref 66]) rfl rfl rfl ?_
        refine hp_getr (k := 0) (w := .ref 67) (pc' := 48) rfl rfl rfl rfl rfl ?_
        refine hp_s (pc' := 49) (st' := [.int x, .ref 67, .ref 66]) rfl rfl rfl ?_
        refine hp_ld (t := 100) (v := (rI p 67 x.toInt.toNat)) rfl (.inl rfl) rfl rfl rfl ?_
        intro (g1a : 0 ≤ x.toInt) (g1b : x.toInt < 23)
        refine hp_s (pc' := 52) (st' := [.int c, .int (rI p 67 x.toInt.toNat), .ref 66]) rfl rfl rfl ?_
        refine hp_cs (kd := 0) (as := [.int (rI p 67 x.toInt.toNat), .int c]) (rest := [.ref 66]) (pc' := 55) rfl rfl rfl rfl rfl rfl rfl (fun d2 => ?_)
        refine s_seenWithM (xi := (rI p 67 x.toInt.toNat).toInt) rfl (yi := c.toInt) rfl ?_
        intro y1 h4
        have ba : 0 ≤ y1.toInt ∧ y1.toInt < 64 := by rw [h4]; exact hSn_b bx.1 bx.2 (by omega)
        refine hp_id (st := [.int y1, .ref 66]) ?_
        refine hp_s (pc' := 56) (st' := [.ref 66, .int y1, .ref 66]) rfl rfl rfl ?_
        refine hp_s (pc' := 57) (st' := [.int y, .ref 66, .int y1, .ref 66]) rfl rfl rfl ?_
        refine hp_cv (r := 66) (o := 12) (kd := 1) (as := [.int y]) (rest := [.int y1, .ref 66]) (pc' := 60) rfl rfl rfl rfl rfl rfl rfl rfl rfl (fun d3 => ?_)
        refine s_seenOf (xi := y.toInt) rfl ?_
        intro y2 h5 h6
        have bb : 0 ≤ y2.toInt ∧ y2.toInt < 64 := by rw [h6]; exact hSn_b by_.1 by_.2 cy.2
        refine hp_id (st := [.int y2, .int y1, .ref 66]) ?_
        refine hp_s (pc' := 62) (st' := [.int c, .int y2, .int y1, .ref 66]) rfl rfl rfl ?_
        refine hp_cs (kd := 0) (as := [.int c]) (rest := [.int y2, .int y1, .ref 66]) (pc' := 65) rfl rfl rfl rfl rfl rfl rfl (fun d4 => ?_)
        refine s_hatBit (xi := c.toInt) rfl (by first | assumption | omega) ?_
        intro y3 h7
        skip
        refine hp_id (st := [.int y3, .int y2, .int y1, .ref 66]) ?_
        refine hp_s (pc' := 66) (st' := [.ref 66, .int y3, .int y2, .int y1, .ref 66]) rfl rfl rfl ?_
        refine hp_getr (k := 7) (w := .ref 71) (pc' := 69) rfl rfl rfl rfl rfl ?_
        refine hp_s (pc' := 70) (st' := [.int y, .ref 71, .int y3, .int y2, .int y1, .ref 66]) rfl rfl rfl ?_
        refine hp_ld (t := 100) (v := (rI p 71 y.toInt.toNat)) rfl (.inl rfl) rfl rfl rfl ?_
        intro (g2a : 0 ≤ y.toInt) (g2b : y.toInt < 7)
        refine hp_cs (kd := 0) (as := [.int (rI p 71 y.toInt.toNat)]) (rest := [.int y3, .int y2, .int y1, .ref 66]) (pc' := 74) rfl rfl rfl rfl rfl rfl rfl (fun d5 => ?_)
        refine s_hatBit (xi := (rI p 71 y.toInt.toNat).toInt) rfl (by first | assumption | omega) ?_
        intro y4 h8
        skip
        refine hp_id (st := [.int y4, .int y3, .int y2, .int y1, .ref 66]) ?_
        refine hp_z (pc' := 75) (e := y3 + y4) (st' := [.int y2, .int y1, .ref 66]) rfl rfl rfl ?_
        intro z2 hz2
        have ez2 := i_add hz2 (show y3.toInt = y3.toInt from rfl) (show y4.toInt = y4.toInt from rfl)
        refine hp_s (pc' := 76) (st' := [.ref 66, .int z2, .int y2, .int y1, .ref 66]) rfl rfl rfl ?_
        refine hp_getr (k := 0) (w := .ref 67) (pc' := 79) rfl rfl rfl rfl rfl ?_
        refine hp_s (pc' := 81) (st' := [.int 22, .ref 67, .int z2, .int y2, .int y1, .ref 66]) rfl rfl rfl ?_
        refine hp_ld (t := 100) (v := (rI p 67 22)) rfl (.inl rfl) rfl rfl rfl ?_
        intro (g3a : 0 ≤ (22 : Int32).toInt) (g3b : (22 : Int32).toInt < 23)
        refine hp_cv (r := 66) (o := 12) (kd := 1) (as := [.int y1, .int y2, .int z2, .int (rI p 67 22)]) (rest := []) (pc' := 85) rfl rfl rfl rfl rfl rfl rfl rfl rfl (fun d6 => ?_)
        refine s_areAlike lo (xi := y1.toInt) rfl (yi := y2.toInt) rfl (hi := z2.toInt) rfl (mi := (rI p 67 22).toInt) rfl (by first | assumption | omega) (by first | assumption | omega) (by first | assumption | omega) (by first | assumption | omega) (by first | assumption | omega) ?_ ?_
        ·
          intro p1 h9 h10
          rw [h4, h6, hz2, h7, h8] at h10
          refine hp_id (st := [.int 1]) ?_
          refine hp_go (pc' := 88) rfl rfl rfl ?_
          refine hp_s (pc' := 90) (st' := [.int c]) rfl rfl rfl ?_
          refine hp_ri rfl rfl ?_
          exact K _ _ (hN.trans h9) (Or.inl ⟨by omega, by omega, by rw [← eP]; exact ⟨by rw [ec]; exact hmw, by rw [ec]; exact h10⟩, hm⟩)
        ·
          intro p2 h11 h12
          rw [h4, h6, hz2, h7, h8] at h12
          refine hp_id (st := [.int 0]) ?_
          refine hp_go (pc' := 91) rfl rfl rfl ?_
          refine hp_inc (L := fun z_ => [(4, .int z_), (0, .ref 66), (1, .int v), (2, .int x), (3, .int y)]) (pc' := 94) rfl rfl rfl (fun _ => rfl) rfl ?_
          intro z3 hz3
          have ez3 := i_add hz3 (show c.toInt = c.toInt from rfl) (show (Int32.ofInt 1).toInt = 1 from by decide)
          refine hp_go (pc' := 24) rfl rfl rfl ?_
          refine ih z3 p2 (by omega) (by omega) (fun j j1 j2 => ?_) (hN.trans h11)
          by_cases g : j < c.toInt
          · exact hm j j1 g
          · rw [show j = c.toInt by omega]
            rw [← eP]
            intro g2
            have q := g2.2
            rw [ec] at q
            exact h12 q
      ·
        intro h13
        have hmw : ¬ hWr (rI p 67 (7 + x.toInt.toNat)) c := by
          have q := h13
          rw [show (7 + x.toInt).toNat = 7 + x.toInt.toNat by omega, show z1 - 1 = c from Int32.toInt_inj.mp (by rw [i_m1 (by omega)]; omega)] at q
          exact q
        refine hp_id (st := [.int 0]) ?_
        refine hp_go (pc' := 91) rfl rfl rfl ?_
        refine hp_inc (L := fun z_ => [(4, .int z_), (0, .ref 66), (1, .int v), (2, .int x), (3, .int y)]) (pc' := 94) rfl rfl rfl (fun _ => rfl) rfl ?_
        intro z4 hz4
        have ez4 := i_add hz4 (show c.toInt = c.toInt from rfl) (show (Int32.ofInt 1).toInt = 1 from by decide)
        refine hp_go (pc' := 24) rfl rfl rfl ?_
        refine ih z4 p (by omega) (by omega) (fun j j1 j2 => ?_) hN
        by_cases g : j < c.toInt
        · exact hm j j1 g
        · rw [show j = c.toInt by omega]
          rw [← eP]
          intro g2
          have q := g2.1
          rw [ec] at q
          exact hmw q
theorem M_pass {ro : List (List Int32)} {n d : Nat} {p : xH} {Q : Option Value → xH → Prop} (lo : Option (List yN)) {v : Int32} {vi : Int} (hv : v.toInt = vi) (pre0 : lMo p lo) (pre1 : ∀ j, 0 ≤ (rI p 67 j).toInt ∧ (rI p 67 j).toInt < 64) (pre2 : ∀ j, -1 ≤ (rI p 71 j).toInt ∧ (rI p 71 j).toInt < 6) (pre3 : 0 ≤ (rI p 66 6).toInt) (pre4 : (rI p 66 6).toInt ≤ 7) (k0 : (¬ (0 ≤ vi ∧ vi / 10 < (rI p 66 6).toInt ∧ vi % 10 < (rI p 66 6).toInt ∧ vi / 10 ≠ vi % 10)) → Q (some (.int (-2000000000))) p) (k1 : ∀ z : Int32, ∀ p2 : xH, (hNt T_aa p p2) → (0 ≤ vi) → (vi / 10 < (rI p 66 6).toInt) → (vi % 10 < (rI p 66 6).toInt) → (vi / 10 ≠ vi % 10) → (hFst (passM p lo (vi / 10).toNat (vi % 10).toNat) (-1) 6 (-2) z.toInt) → Q (some (.int z)) p2) : hP ro n d (12, 5, 1, 1, k235) 0 (lv_args 0 [.ref 66, .int v]) [] p Q := by
  subst hv
  refine hp_id (ls := [(0, .ref 66), (1, .int v)]) ?_
  refine hp_s (pc' := 1) (st' := [.ref 66]) rfl rfl rfl ?_
  refine hp_s (pc' := 2) (st' := [.int v, .ref 66]) rfl rfl rfl ?_
  refine hp_cv (r := 66) (o := 12) (kd := 1) (as := [.int v]) (rest := []) (pc' := 5) rfl rfl rfl rfl rfl rfl rfl rfl rfl (fun d1 => ?_)
  refine s_isPq (xi := v.toInt) rfl (by first | assumption | omega) ?_ ?_
  ·
    intro h1 h2 h3 h4
    refine hp_id (st := [.int 1]) ?_
    refine hp_go (pc' := 11) rfl rfl rfl ?_
    refine hp_s (pc' := 12) (st' := [.int v]) rfl rfl rfl ?_
    refine hp_s (pc' := 14) (st' := [.int 10, .int v]) rfl rfl rfl ?_
    refine hp_z (pc' := 15) (e := v / 10) (st' := []) rfl rfl rfl ?_
    intro z1 hz1
    have ez1 := i_div hz1 (show v.toInt = v.toInt from rfl) (show (10 : Int32).toInt = 10 from by decide) (by decide)
    refine hp_s (pc' := 16) (ls' := [(2, .int z1), (0, .ref 66), (1, .int v)]) (st' := []) rfl rfl rfl ?_
    refine hp_s (pc' := 17) (st' := [.int v]) rfl rfl rfl ?_
    refine hp_s (pc' := 19) (st' := [.int 10, .int v]) rfl rfl rfl ?_
    refine hp_z (pc' := 20) (e := v - v / 10 * 10) (st' := []) rfl rfl rfl ?_
    intro z2 hz2
    have ez2 := i_rem hz2 (show v.toInt = v.toInt from rfl) (show (10 : Int32).toInt = 10 from by decide) (by decide)
    refine hp_s (pc' := 21) (ls' := [(3, .int z2), (2, .int z1), (0, .ref 66), (1, .int v)]) (st' := []) rfl rfl rfl ?_
    refine hp_s (pc' := 22) (st' := [.int (-1)]) rfl rfl rfl ?_
    refine hp_s (pc' := 24) (ls' := [(4, .int (-1)), (3, .int z2), (2, .int z1), (0, .ref 66), (1, .int v)]) (st' := []) rfl rfl rfl ?_
    refine hp_ls (ls' := [(4, .int (-1)), (0, .ref 66), (1, .int v), (2, .int z1), (3, .int z2)]) rfl rfl ⟨rfl, rfl, rfl, rfl, rfl, trivial⟩ ?_
    exact lp_235 (p0 := p) (v := v) (x := z1) (y := z2) pre0 pre1 pre2 pre3 pre4 (by omega) (by omega) (fun z p2 nt h => k1 z p2 nt (by omega) (by omega) (by omega) (by omega) (by rw [show (v.toInt / 10).toNat = z1.toInt.toNat by omega, show (v.toInt % 10).toNat = z2.toInt.toNat by omega]; exact h)) n (-1) p (by have h00 : (-1 : Int32).toInt = -1 := (by decide); omega) (by have h00 : (-1 : Int32).toInt = -1 := (by decide); omega) (fun j j1 j2 => absurd j2 (by have h00 : (-1 : Int32).toInt = -1 := (by decide); omega)) (hNt.refl _ _)
  ·
    intro h5
    refine hp_id (st := [.int 0]) ?_
    refine hp_go (pc' := 8) rfl rfl rfl ?_
    refine hp_s (pc' := 10) (st' := [.int (-2000000000)]) rfl rfl rfl ?_
    refine hp_ri rfl rfl ?_
    first | (exact k0 (by first | assumption | omega)) | (exact k1 _ _ (by first | assumption | omega) (by first | assumption | omega) (by first | assumption | omega) (by first | assumption | omega) (by first | assumption | omega) (by first | assumption | omega)) | (exfalso; omega)
