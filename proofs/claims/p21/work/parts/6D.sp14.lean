/-! contracts of methods, walked -/
/-- who can look so -/
def hCan (l h m w : Int32) : Prop := hSn l h = w ∨ ∃ c : Int32, -1 ≤ c.toInt ∧ c.toInt < 6 ∧ hWr m c ∧ hSn l c = w
/-- the bits of those of whom it holds -/
def hBs (P : Nat → Prop) : Nat → Int32 → Prop
  | 0, r => r = 0
  | k + 1, r => ∃ q, hBs P k q ∧ ((P k ∧ r = q ||| ((1 : Int32) <<< (Int32.ofInt (k : Int) &&& 31))) ∨ (¬ P k ∧ r = q))
theorem hBs_one {P : Nat → Prop} : ∀ {k : Nat} {r s : Int32}, hBs P k r → hBs P k s → r = s
  | 0, _, _, h, g => Eq.trans h (Eq.symm g)
  | k + 1, _, _, ⟨q, h1, h2⟩, ⟨q', g1, g2⟩ => by
    have e := hBs_one h1 g1
    subst e
    rcases h2 with ⟨a, b⟩ | ⟨a, b⟩ <;> rcases g2 with ⟨c, d⟩ | ⟨c, d⟩
    · rw [b, d]
    · exact absurd a c
    · exact absurd c a
    · rw [b, d]
theorem hBs_eq {P P' : Nat → Prop} : ∀ {k : Nat} {r : Int32}, (∀ j, j < k → (P j ↔ P' j)) → hBs P k r → hBs P' k r
  | 0, _, _, h => h
  | k + 1, _, e, ⟨q, h1, h2⟩ => ⟨q, hBs_eq (fun j hj => e j (by omega)) h1, h2.imp (fun a => ⟨(e k (by omega)).mp a.1, a.2⟩) (fun a => ⟨fun z => a.1 ((e k (by omega)).mpr z), a.2⟩)⟩
theorem i_nat {x : Int32} (h : 0 ≤ x.toInt) : Int32.ofInt (x.toInt.toNat : Int) = x := by rw [Int.toNat_of_nonneg h, Int32.ofInt_toInt]
theorem i_m1 {x : Int32} (h : 0 ≤ x.toInt) : (x - 1).toInt = x.toInt - 1 := by
  have q := i_sub (z := x - 1) rfl (show x.toInt = x.toInt from rfl) (show (1 : Int32).toInt = 1 from by decide)
  omega
theorem lp_88 {ro : List (List Int32)} {d : Nat} {Q : Option Value → xH → Prop} {x w : Int32} {p : xH} (x0 : 0 ≤ x.toInt) (x7 : x.toInt < 7) (hne : ¬ hSn (rI p 14 x.toInt.toNat) (rI p 2 x.toInt.toNat) = w) (K1 : hCan (rI p 14 x.toInt.toNat) (rI p 2 x.toInt.toNat) (rI p 15 x.toInt.toNat) w → Q (some (.int 1)) p) (K0 : ¬ hCan (rI p 14 x.toInt.toNat) (rI p 2 x.toInt.toNat) (rI p 15 x.toInt.toNat) w → Q (some (.int 0)) p) : ∀ (n : Nat) (k : Int32), (-1 ≤ k.toInt) → (k.toInt ≤ 6) → (∀ c : Int32, -1 ≤ c.toInt → c.toInt < k.toInt → ¬ (hWr (rI p 15 x.toInt.toNat) c ∧ hSn (rI p 14 x.toInt.toNat) c = w)) → hP ro n d (7, 4, 1, 2, k88) 16 [(3, .int k), (0, .ref 49), (1, .int x), (2, .int w)] [] p Q := by
  intro n
  induction n with
  | zero => intros; exact hp_0
  | succ n ih =>
    intro k h1 h2 hm
    refine hp_s1 (pc' := 17) (st' := [.int k]) rfl rfl rfl ?_
    refine hp_s (pc' := 19) (st' := [.int 6, .int k]) rfl rfl rfl ?_
    refine hp_ic (pc' := 22) (t := 55) (a := k.toInt) (b := 6) rfl rfl rfl rfl (by decide) (fun (h1 : 6 ≤ k.toInt) => ?_) (fun (h2 : ¬ (6 ≤ k.toInt)) => ?_)
    ·
      refine hp_s (pc' := 56) (st' := [.int 0]) rfl rfl rfl ?_
      refine hp_rb rfl rfl (fun _ => ?_)
      exact K0 (fun hc => hc.elim hne (fun ⟨c, c1, c2, c3, c4⟩ => hm c c1 (by omega) ⟨c3, c4⟩))
    ·
      refine hp_s (pc' := 23) (st' := [.ref 49]) rfl rfl rfl ?_
      refine hp_getr (k := 1) (w := .ref 13) (pc' := 26) rfl rfl rfl rfl rfl ?_
      refine hp_s (pc' := 27) (st' := [.int x, .ref 13]) rfl rfl rfl ?_
      refine hp_s (pc' := 28) (st' := [.int k, .int x, .ref 13]) rfl rfl rfl ?_
      refine hp_cv (r := 13) (o := 1) (kd := 1) (as := [.int x, .int k]) (rest := []) (pc' := 31) rfl rfl rfl rfl rfl rfl rfl rfl rfl (fun d1 => ?_)
      refine s_mayWear (xi := x.toInt) rfl (yi := k.toInt) rfl ?_ ?_
      ·
        intro h3
        have hW0 := h3
        refine hp_id (st := [.int 1]) ?_
        refine hp_go (pc' := 34) rfl rfl rfl ?_
        refine hp_s (pc' := 35) (st' := [.ref 49]) rfl rfl rfl ?_
        refine hp_getr (k := 1) (w := .ref 13) (pc' := 38) rfl rfl rfl rfl rfl ?_
        refine hp_s (pc' := 39) (st' := [.int x, .ref 13]) rfl rfl rfl ?_
        refine hp_s (pc' := 40) (st' := [.int k, .int x, .ref 13]) rfl rfl rfl ?_
        refine hp_cv (r := 13) (o := 1) (kd := 1) (as := [.int x, .int k]) (rest := []) (pc' := 43) rfl rfl rfl rfl rfl rfl rfl rfl rfl (fun d2 => ?_)
        refine s_seenWith (xi := x.toInt) rfl (yi := k.toInt) rfl (by first | assumption | omega) ?_
        intro y1 h4 h5 h6
        have hz0 := h6
        refine hp_id (st := [.int y1]) ?_
        refine hp_s (pc' := 44) (st' := [.int w, .int y1]) rfl rfl rfl ?_
        refine hp_ic (pc' := 47) (t := 49) (a := y1.toInt) (b := w.toInt) rfl rfl rfl rfl rfl (fun (h7 : y1.toInt ≠ w.toInt) => ?_) (fun (h8 : ¬ (y1.toInt ≠ w.toInt)) => ?_)
        ·
          refine hp_inc (L := fun z => [(3, .int z), (0, .ref 49), (1, .int x), (2, .int w)]) (pc' := 52) rfl rfl rfl (fun _ => rfl) rfl ?_
          intro z1 hz1
          have ez1 := i_add hz1 (show k.toInt = k.toInt from rfl) (show (Int32.ofInt 1).toInt = 1 from by decide)
          refine hp_go (pc' := 16) rfl rfl rfl ?_
          refine ih _ (by omega) (by omega) (fun c c1 c2 => ?_)
          by_cases g : c.toInt < k.toInt
          · exact hm c c1 g
          · have ec : c = k := Int32.toInt_inj.mp (by omega)
            rw [ec]
            rintro ⟨a, b⟩
            first | exact hN0 a | (rw [← hz0] at b; have q := congrArg Int32.toInt b; omega)
        ·
          refine hp_s (pc' := 48) (st' := [.int 1]) rfl rfl rfl ?_
          refine hp_rb rfl rfl (fun _ => ?_)
          exact K1 (Or.inr ⟨k, by omega, by omega, hW0, by rw [← hz0]; exact Int32.toInt_inj.mp (by omega)⟩)
      ·
        intro h9
        have hN0 := h9
        refine hp_id (st := [.int 0]) ?_
        refine hp_go (pc' := 49) rfl rfl rfl ?_
        refine hp_inc (L := fun z => [(3, .int z), (0, .ref 49), (1, .int x), (2, .int w)]) (pc' := 52) rfl rfl rfl (fun _ => rfl) rfl ?_
        intro z2 hz2
        have ez2 := i_add hz2 (show k.toInt = k.toInt from rfl) (show (Int32.ofInt 1).toInt = 1 from by decide)
        refine hp_go (pc' := 16) rfl rfl rfl ?_
        refine ih _ (by omega) (by omega) (fun c c1 c2 => ?_)
        by_cases g : c.toInt < k.toInt
        · exact hm c c1 g
        · have ec : c = k := Int32.toInt_inj.mp (by omega)
          rw [ec]
          rintro ⟨a, b⟩
          first | exact hN0 a | (rw [← hz0] at b; have q := congrArg Int32.toInt b; omega)
theorem s_canLook {ro : List (List Int32)} {n d : Nat} {p : xH} {Q : Option Value → xH → Prop} {x : Int32} {xi : Int} {w : Int32} {wi : Int} (hx : x.toInt = xi) (hw : w.toInt = wi) (pre0 : 0 ≤ xi) (pre1 : xi < 7) (pre2 : -1 ≤ (rI p 2 xi.toNat).toInt) (k0 : (hCan (rI p 14 xi.toNat) (rI p 2 xi.toNat) (rI p 15 xi.toNat) w) → Q (some (.int (1))) p) (k1 : (¬ hCan (rI p 14 xi.toNat) (rI p 2 xi.toNat) (rI p 15 xi.toNat) w) → Q (some (.int (0))) p) : hP ro n d (7, 4, 1, 2, k88) 0 (lv_args 0 [.ref 49, .int x, .int w]) [] p Q := by
  subst hx
  subst hw
  refine hp_id (ls := [(0, .ref 49), (1, .int x), (2, .int w)]) ?_
  refine hp_s (pc' := 1) (st' := [.ref 49]) rfl rfl rfl ?_
  refine hp_getr (k := 1) (w := .ref 13) (pc' := 4) rfl rfl rfl rfl rfl ?_
  refine hp_s (pc' := 5) (st' := [.int x, .ref 13]) rfl rfl rfl ?_
  refine hp_cv (r := 13) (o := 1) (kd := 1) (as := [.int x]) (rest := []) (pc' := 8) rfl rfl rfl rfl rfl rfl rfl rfl rfl (fun d1 => ?_)
  refine s_seen (xi := x.toInt) rfl (by first | assumption | omega) ?_
  intro y1 h1 h2 h3
  have hz0 := h3
  refine hp_id (st := [.int y1]) ?_
  refine hp_s (pc' := 9) (st' := [.int w, .int y1]) rfl rfl rfl ?_
  refine hp_ic (pc' := 12) (t := 14) (a := y1.toInt) (b := w.toInt) rfl rfl rfl rfl rfl (fun (h4 : y1.toInt ≠ w.toInt) => ?_) (fun (h5 : ¬ (y1.toInt ≠ w.toInt)) => ?_)
  ·
    refine hp_s (pc' := 15) (st' := [.int (-1)]) rfl rfl rfl ?_
    refine hp_s (pc' := 16) (ls' := [(3, .int (-1)), (0, .ref 49), (1, .int x), (2, .int w)]) (st' := []) rfl rfl rfl ?_
    exact lp_88 (x := x) (w := w) (by omega) (by omega) (by intro e; rw [← hz0] at e; have q := congrArg Int32.toInt e; omega) k0 k1 n (-1) (by decide) (by decide) (fun c c1 c2 => absurd c2 (by have h1 : (-1 : Int32).toInt = -1 := (by decide); omega))
  ·
    refine hp_s (pc' := 13) (st' := [.int 1]) rfl rfl rfl ?_
    refine hp_rb rfl rfl (fun _ => ?_)
    first | (exact k0 (by first | assumption | omega | exact Or.inl (by rw [← hz0]; exact Int32.toInt_inj.mp (by omega)))) | (exfalso; omega)
theorem lp_87 {ro : List (List Int32)} {d : Nat} {Q : Option Value → xH → Prop} {x : Int32} {p : xH} (S0 : 0 ≤ (rI p 13 7).toInt) (S7 : (rI p 13 7).toInt ≤ 7) (h2lo : ∀ j, -1 ≤ (rI p 2 j).toInt) (K : ∀ z : Int32, hBs (fun j => hCan (rI p 14 j) (rI p 2 j) (rI p 15 j) (rI p 6 x.toInt.toNat)) (rI p 13 7).toInt.toNat z → Q (some (.int z)) p) : ∀ (n : Nat) (k : Int32) (b : Int32), (0 ≤ k.toInt) → (k.toInt ≤ (rI p 13 7).toInt) → (hBs (fun j => hCan (rI p 14 j) (rI p 2 j) (rI p 15 j) (rI p 6 x.toInt.toNat)) k.toInt.toNat b) → hP ro n d (7, 4, 1, 1, k87) 4 [(3, .int k), (2, .int b), (0, .ref 49), (1, .int x)] [] p Q := by
  intro n
  induction n with
  | zero => intros; exact hp_0
  | succ n ih =>
    intro k b h1 h2 hb
    refine hp_s1 (pc' := 5) (st' := [.int k]) rfl rfl rfl ?_
    refine hp_s (pc' := 6) (st' := [.ref 49, .int k]) rfl rfl rfl ?_
    refine hp_getr (k := 1) (w := .ref 13) (pc' := 9) rfl rfl rfl rfl rfl ?_
    refine hp_get (k := 7) (pc' := 12) (v := (rI p 13 7)) rfl rfl rfl rfl rfl rfl ?_
    refine hp_ic (pc' := 15) (t := 44) (a := k.toInt) (b := (rI p 13 7).toInt) rfl rfl rfl rfl rfl (fun (h1 : (rI p 13 7).toInt ≤ k.toInt) => ?_) (fun (h2 : ¬ ((rI p 13 7).toInt ≤ k.toInt)) => ?_)
    ·
      refine hp_s (pc' := 45) (st' := [.int b]) rfl rfl rfl ?_
      refine hp_ri rfl rfl ?_
      exact K _ (by rw [show (rI p 13 7).toInt.toNat = k.toInt.toNat by omega]; exact hb)
    ·
      refine hp_s (pc' := 16) (st' := [.ref 49]) rfl rfl rfl ?_
      refine hp_s (pc' := 17) (st' := [.int k, .ref 49]) rfl rfl rfl ?_
      refine hp_s (pc' := 18) (st' := [.ref 49, .int k, .ref 49]) rfl rfl rfl ?_
      refine hp_getr (k := 0) (w := .ref 1) (pc' := 21) rfl rfl rfl rfl rfl ?_
      refine hp_getr (k := 4) (w := .ref 6) (pc' := 24) rfl rfl rfl rfl rfl ?_
      refine hp_s (pc' := 25) (st' := [.int x, .ref 6, .int k, .ref 49]) rfl rfl rfl ?_
      refine hp_ld (t := 100) (v := (rI p 6 x.toInt.toNat)) rfl (.inl rfl) rfl rfl rfl ?_
      intro (g1a : 0 ≤ x.toInt) (g1b : x.toInt < 10)
      have lo9 := h2lo k.toInt.toNat
      refine hp_cv (r := 49) (o := 7) (kd := 1) (as := [.int k, .int (rI p 6 x.toInt.toNat)]) (rest := []) (pc' := 29) rfl rfl rfl rfl rfl rfl rfl rfl rfl (fun d1 => ?_)
      refine s_canLook (xi := k.toInt) rfl (wi := (rI p 6 x.toInt.toNat).toInt) rfl (by first | assumption | omega) (by first | assumption | omega) (by first | assumption | omega) ?_ ?_
      ·
        intro h3
        have hC := h3
        refine hp_id (st := [.int 1]) ?_
        refine hp_go (pc' := 32) rfl rfl rfl ?_
        refine hp_s (pc' := 33) (st' := [.int b]) rfl rfl rfl ?_
        refine hp_s (pc' := 34) (st' := [.int 1, .int b]) rfl rfl rfl ?_
        refine hp_s (pc' := 35) (st' := [.int k, .int 1, .int b]) rfl rfl rfl ?_
        refine hp_z (pc' := 36) (e := 1 <<< (k &&& 31)) (st' := [.int b]) rfl rfl rfl ?_
        intro z1 hz1
        refine hp_z (pc' := 37) (e := b ||| z1) (st' := []) rfl rfl rfl ?_
        intro z2 hz2
        refine hp_s (pc' := 38) (ls' := [(2, .int z2), (3, .int k), (0, .ref 49), (1, .int x)]) (st' := []) rfl rfl rfl ?_
        refine hp_inc (L := fun z => [(3, .int z), (2, .int z2), (0, .ref 49), (1, .int x)]) (pc' := 41) rfl rfl rfl (fun _ => rfl) rfl ?_
        intro z3 hz3
        have ez3 := i_add hz3 (show k.toInt = k.toInt from rfl) (show (Int32.ofInt 1).toInt = 1 from by decide)
        refine hp_go (pc' := 4) rfl rfl rfl ?_
        refine ih _ _ (by omega) (by omega) ?_
        rw [show z3.toInt.toNat = k.toInt.toNat + 1 by omega]
        first | exact ⟨b, hb, Or.inl ⟨hC, by rw [i_nat (by omega)]; subst_vars; rfl⟩⟩ | exact ⟨b, hb, Or.inr ⟨hC, by subst_vars; first | rfl | exact Int32.or_zero⟩⟩
      ·
        intro h4
        have hC := h4
        refine hp_id (st := [.int 0]) ?_
        refine hp_go (pc' := 38) rfl rfl rfl ?_
        refine hp_inc (L := fun z => [(3, .int z), (2, .int b), (0, .ref 49), (1, .int x)]) (pc' := 41) rfl rfl rfl (fun _ => rfl) rfl ?_
        intro z4 hz4
        have ez4 := i_add hz4 (show k.toInt = k.toInt from rfl) (show (Int32.ofInt 1).toInt = 1 from by decide)
        refine hp_go (pc' := 4) rfl rfl rfl ?_
        refine ih _ _ (by omega) (by omega) ?_
        rw [show z4.toInt.toNat = k.toInt.toNat + 1 by omega]
        first | exact ⟨b, hb, Or.inl ⟨hC, by rw [i_nat (by omega)]; subst_vars; rfl⟩⟩ | exact ⟨b, hb, Or.inr ⟨hC, by subst_vars; first | rfl | exact Int32.or_zero⟩⟩
theorem s_whoCanBe {ro : List (List Int32)} {n d : Nat} {p : xH} {Q : Option Value → xH → Prop} {x : Int32} {xi : Int} (hx : x.toInt = xi) (pre0 : 0 ≤ (rI p 13 7).toInt) (pre1 : (rI p 13 7).toInt ≤ 7) (pre2 : ∀ j, -1 ≤ (rI p 2 j).toInt) (k0 : ∀ z : Int32, (hBs (fun j => hCan (rI p 14 j) (rI p 2 j) (rI p 15 j) (rI p 6 xi.toNat)) (rI p 13 7).toInt.toNat z) → Q (some (.int z)) p) : hP ro n d (7, 4, 1, 1, k87) 0 (lv_args 0 [.ref 49, .int x]) [] p Q := by
  subst hx
  refine hp_id (ls := [(0, .ref 49), (1, .int x)]) ?_
  refine hp_s (pc' := 1) (st' := [.int 0]) rfl rfl rfl ?_
  refine hp_s (pc' := 2) (ls' := [(2, .int 0), (0, .ref 49), (1, .int x)]) (st' := []) rfl rfl rfl ?_
  refine hp_s (pc' := 3) (st' := [.int 0]) rfl rfl rfl ?_
  refine hp_s (pc' := 4) (ls' := [(3, .int 0), (2, .int 0), (0, .ref 49), (1, .int x)]) (st' := []) rfl rfl rfl ?_
  exact lp_87 (x := x) (by omega) (by omega) pre2 k0 n 0 0 (by decide) (by have h00 : (0 : Int32).toInt = 0 := (by decide); omega) (by rw [show (0 : Int32).toInt.toNat = 0 by decide]; rfl)
theorem X_who {ro : List (List Int32)} {n d : Nat} {p : xH} {Q : Option Value → xH → Prop} {x : Int32} {xi : Int} (hx : x.toInt = xi) (pre0 : 0 ≤ (rI p 13 7).toInt) (pre1 : (rI p 13 7).toInt ≤ 7) (pre2 : ∀ j, -1 ≤ (rI p 2 j).toInt) (k0 : (¬ (0 ≤ xi ∧ xi < (rI p 1 5).toInt)) → Q (some (.int (-1))) p) (k1 : ∀ z : Int32, (0 ≤ xi) → (xi < (rI p 1 5).toInt) → (hBs (fun j => hCan (rI p 14 j) (rI p 2 j) (rI p 15 j) (rI p 6 xi.toNat)) (rI p 13 7).toInt.toNat z) → Q (some (.int z)) p) : hP ro n d (11, 2, 1, 1, k154) 0 (lv_args 0 [.ref 0, .int x]) [] p Q := by
  subst hx
  refine hp_id (ls := [(0, .ref 0), (1, .int x)]) ?_
  refine hp_s (pc' := 1) (st' := [.ref 0]) rfl rfl rfl ?_
  refine hp_getr (k := 0) (w := .ref 1) (pc' := 4) rfl rfl rfl rfl rfl ?_
  refine hp_s (pc' := 5) (st' := [.int x, .ref 1]) rfl rfl rfl ?_
  refine hp_cv (r := 1) (o := 5) (kd := 1) (as := [.int x]) (rest := []) (pc' := 8) rfl rfl rfl rfl rfl rfl rfl rfl rfl (fun d1 => ?_)
  refine s_hasSight (xi := x.toInt) rfl ?_ ?_
  ·
    intro h1 h2
    refine hp_id (st := [.int 1]) ?_
    refine hp_go (pc' := 13) rfl rfl rfl ?_
    refine hp_s (pc' := 14) (st' := [.ref 0]) rfl rfl rfl ?_
    refine hp_getr (k := 10) (w := .ref 49) (pc' := 17) rfl rfl rfl rfl rfl ?_
    refine hp_s (pc' := 18) (st' := [.int x, .ref 49]) rfl rfl rfl ?_
    refine hp_cv (r := 49) (o := 7) (kd := 1) (as := [.int x]) (rest := []) (pc' := 21) rfl rfl rfl rfl rfl rfl rfl rfl rfl (fun d2 => ?_)
    refine s_whoCanBe (xi := x.toInt) rfl (by first | assumption | omega) (by first | assumption | omega) (by first | assumption | omega) ?_
    intro y1 h3
    refine hp_id (st := [.int y1]) ?_
    refine hp_ri rfl rfl ?_
    first | (exact k0 (by first | assumption | omega)) | (exact k1 _ (by first | assumption | omega) (by first | assumption | omega) (by first | assumption | omega)) | (exfalso; omega)
  ·
    intro h4
    refine hp_id (st := [.int 0]) ?_
    refine hp_go (pc' := 11) rfl rfl rfl ?_
    refine hp_s (pc' := 12) (st' := [.int (-1)]) rfl rfl rfl ?_
    refine hp_ri rfl rfl ?_
    first | (exact k0 (by first | assumption | omega)) | (exact k1 _ (by first | assumption | omega) (by first | assumption | omega) (by first | assumption | omega)) | (exfalso; omega)
theorem s_mayWearM {ro : List (List Int32)} {n d : Nat} {p : xH} {Q : Option Value → xH → Prop} {x : Int32} {xi : Int} {y : Int32} {yi : Int} (hx : x.toInt = xi) (hy : y.toInt = yi) (pre0 : 0 ≤ xi) (pre1 : xi < 7) (pre2 : 0 ≤ yi) (pre3 : yi ≤ 6) (k0 : (hWr (rI p 67 (7 + xi).toNat) (y - 1)) → Q (some (.int (1))) p) (k1 : (¬ hWr (rI p 67 (7 + xi).toNat) (y - 1)) → Q (some (.int (0))) p) : hP ro n d (12, 3, 1, 2, k228) 0 (lv_args 0 [.ref 66, .int x, .int y]) [] p Q := by
  subst hx
  subst hy
  refine hp_id (ls := [(0, .ref 66), (1, .int x), (2, .int y)]) ?_
  have q1 := i_m1 pre2
  refine hp_s (pc' := 1) (st' := [.int y]) rfl rfl rfl ?_
  refine hp_if (pc' := 4) (t := 22) (a := y.toInt) rfl rfl rfl rfl (fun (h1 : y.toInt = 0) => ?_) (fun (h2 : ¬ (y.toInt = 0)) => ?_)
  ·
    refine hp_s (pc' := 23) (st' := [.int 1]) rfl rfl rfl ?_
    refine hp_go (pc' := 27) rfl rfl rfl ?_
    refine hp_rb rfl rfl (fun _ => ?_)
    first | (exact k0 (by first | assumption | (unfold hWr; omega) | (rw [← q7]; subst_vars; unfold hWr; omega))) | (exfalso; omega)
  ·
    refine hp_s (pc' := 5) (st' := [.ref 66]) rfl rfl rfl ?_
    refine hp_getr (k := 0) (w := .ref 67) (pc' := 8) rfl rfl rfl rfl rfl ?_
    refine hp_s (pc' := 10) (st' := [.int 7, .ref 67]) rfl rfl rfl ?_
    refine hp_s (pc' := 11) (st' := [.int x, .int 7, .ref 67]) rfl rfl rfl ?_
    refine hp_z (pc' := 12) (e := 7 + x) (st' := [.ref 67]) rfl rfl rfl ?_
    intro z1 hz1
    have ez1 := i_add hz1 (show (7 : Int32).toInt = 7 from by decide) (show x.toInt = x.toInt from rfl)
    refine hp_ld (t := 100) (v := (rI p 67 z1.toInt.toNat)) rfl (.inl rfl) rfl rfl rfl ?_
    intro (g1a : 0 ≤ z1.toInt) (g1b : z1.toInt < 23)
    have q7 : (rI p 67 z1.toInt.toNat) = rI p 67 (7 + x.toInt).toNat := by congr 1; omega
    refine hp_s (pc' := 14) (st' := [.int y, .int (rI p 67 z1.toInt.toNat)]) rfl rfl rfl ?_
    refine hp_s (pc' := 15) (st' := [.int 1, .int y, .int (rI p 67 z1.toInt.toNat)]) rfl rfl rfl ?_
    refine hp_z (pc' := 16) (e := y - 1) (st' := [.int (rI p 67 z1.toInt.toNat)]) rfl rfl rfl ?_
    intro z2 hz2
    have ez2 := i_sub hz2 (show y.toInt = y.toInt from rfl) (show (1 : Int32).toInt = 1 from by decide)
    refine hp_cs (kd := 0) (as := [.int (rI p 67 z1.toInt.toNat), .int z2]) (rest := []) (pc' := 19) rfl rfl rfl rfl rfl rfl rfl (fun d1 => ?_)
    refine s_isIn (xi := (rI p 67 z1.toInt.toNat).toInt) rfl (yi := z2.toInt) rfl ?_ ?_
    ·
      intro h3
      refine hp_id (st := [.int 1]) ?_
      refine hp_go (pc' := 22) rfl rfl rfl ?_
      refine hp_s (pc' := 23) (st' := [.int 1]) rfl rfl rfl ?_
      refine hp_go (pc' := 27) rfl rfl rfl ?_
      refine hp_rb rfl rfl (fun _ => ?_)
      first | (exact k0 (by first | assumption | (unfold hWr; omega) | (rw [← q7]; subst_vars; unfold hWr; omega))) | (exfalso; omega)
    ·
      intro h4
      refine hp_id (st := [.int 0]) ?_
      refine hp_go (pc' := 26) rfl rfl rfl ?_
      refine hp_s (pc' := 27) (st' := [.int 0]) rfl rfl rfl ?_
      refine hp_rb rfl rfl (fun _ => ?_)
      first | (exact k1 (by first | assumption | (unfold hWr; omega) | (rw [← q7]; subst_vars; unfold hWr; omega))) | (exfalso; omega)
theorem lp_243 {ro : List (List Int32)} {d : Nat} {Q : Option Value → xH → Prop} {x w : Int32} {p : xH} (x0 : 0 ≤ x.toInt) (x7 : x.toInt < 7) (hne : ¬ hSn (rI p 67 x.toInt.toNat) (rI p 71 x.toInt.toNat) = w) (K1 : hCan (rI p 67 x.toInt.toNat) (rI p 71 x.toInt.toNat) (rI p 67 (7 + x.toInt.toNat)) w → Q (some (.int 1)) p) (K0 : ¬ hCan (rI p 67 x.toInt.toNat) (rI p 71 x.toInt.toNat) (rI p 67 (7 + x.toInt.toNat)) w → Q (some (.int 0)) p) : ∀ (n : Nat) (k : Int32), (0 ≤ k.toInt) → (k.toInt ≤ 7) → (∀ c : Int32, -1 ≤ c.toInt → c.toInt < k.toInt - 1 → ¬ (hWr (rI p 67 (7 + x.toInt.toNat)) c ∧ hSn (rI p 67 x.toInt.toNat) c = w)) → hP ro n d (12, 4, 1, 2, k243) 13 [(3, .int k), (0, .ref 66), (1, .int x), (2, .int w)] [] p Q := by
  intro n
  induction n with
  | zero => intros; exact hp_0
  | succ n ih =>
    intro k h1 h2 hm
    have q1 := i_m1 h1
    refine hp_s1 (pc' := 14) (st' := [.int k]) rfl rfl rfl ?_
    refine hp_s (pc' := 16) (st' := [.int 7, .int k]) rfl rfl rfl ?_
    refine hp_ic (pc' := 19) (t := 52) (a := k.toInt) (b := 7) rfl rfl rfl rfl (by decide) (fun (h1 : 7 ≤ k.toInt) => ?_) (fun (h2 : ¬ (7 ≤ k.toInt)) => ?_)
    ·
      refine hp_s (pc' := 53) (st' := [.int 0]) rfl rfl rfl ?_
      refine hp_rb rfl rfl (fun _ => ?_)
      exact K0 (fun hc => hc.elim hne (fun ⟨c, c1, c2, c3, c4⟩ => hm c c1 (by omega) ⟨c3, c4⟩))
    ·
      refine hp_s (pc' := 20) (st' := [.ref 66]) rfl rfl rfl ?_
      refine hp_s (pc' := 21) (st' := [.int x, .ref 66]) rfl rfl rfl ?_
      refine hp_s (pc' := 22) (st' := [.int k, .int x, .ref 66]) rfl rfl rfl ?_
      refine hp_cv (r := 66) (o := 12) (kd := 1) (as := [.int x, .int k]) (rest := []) (pc' := 25) rfl rfl rfl rfl rfl rfl rfl rfl rfl (fun d1 => ?_)
      refine s_mayWearM (xi := x.toInt) rfl (yi := k.toInt) rfl (by first | assumption | omega) (by first | assumption | omega) (by first | assumption | omega) (by first | assumption | omega) ?_ ?_
      ·
        intro h3
        have hW0 : hWr (rI p 67 (7 + x.toInt.toNat)) (k - 1) := by rw [show 7 + x.toInt.toNat = (7 + x.toInt).toNat by omega]; exact h3
        refine hp_id (st := [.int 1]) ?_
        refine hp_go (pc' := 28) rfl rfl rfl ?_
        refine hp_s (pc' := 29) (st' := [.ref 66]) rfl rfl rfl ?_
        refine hp_getr (k := 0) (w := .ref 67) (pc' := 32) rfl rfl rfl rfl rfl ?_
        refine hp_s (pc' := 33) (st' := [.int x, .ref 67]) rfl rfl rfl ?_
        refine hp_ld (t := 100) (v := (rI p 67 x.toInt.toNat)) rfl (.inl rfl) rfl rfl rfl ?_
        intro (g1a : 0 ≤ x.toInt) (g1b : x.toInt < 23)
        refine hp_s (pc' := 35) (st' := [.int k, .int (rI p 67 x.toInt.toNat)]) rfl rfl rfl ?_
        refine hp_s (pc' := 36) (st' := [.int 1, .int k, .int (rI p 67 x.toInt.toNat)]) rfl rfl rfl ?_
        refine hp_z (pc' := 37) (e := k - 1) (st' := [.int (rI p 67 x.toInt.toNat)]) rfl rfl rfl ?_
        intro z1 hz1
        have ez1 := i_sub hz1 (show k.toInt = k.toInt from rfl) (show (1 : Int32).toInt = 1 from by decide)
        refine hp_cs (kd := 0) (as := [.int (rI p 67 x.toInt.toNat), .int z1]) (rest := []) (pc' := 40) rfl rfl rfl rfl rfl rfl rfl (fun d2 => ?_)
        refine s_seenWithM (xi := (rI p 67 x.toInt.toNat).toInt) rfl (yi := z1.toInt) rfl ?_
        intro y1 h4
        have hz0 : y1 = hSn (rI p 67 x.toInt.toNat) (k - 1) := by subst_vars; rfl
        refine hp_id (st := [.int y1]) ?_
        refine hp_s (pc' := 41) (st' := [.int w, .int y1]) rfl rfl rfl ?_
        refine hp_ic (pc' := 44) (t := 46) (a := y1.toInt) (b := w.toInt) rfl rfl rfl rfl rfl (fun (h5 : y1.toInt ≠ w.toInt) => ?_) (fun (h6 : ¬ (y1.toInt ≠ w.toInt)) => ?_)
        ·
          refine hp_inc (L := fun z => [(3, .int z), (0, .ref 66), (1, .int x), (2, .int w)]) (pc' := 49) rfl rfl rfl (fun _ => rfl) rfl ?_
          intro z2 hz2
          have ez2 := i_add hz2 (show k.toInt = k.toInt from rfl) (show (Int32.ofInt 1).toInt = 1 from by decide)
          refine hp_go (pc' := 13) rfl rfl rfl ?_
          refine ih _ (by omega) (by omega) (fun c c1 c2 => ?_)
          by_cases g : c.toInt < k.toInt - 1
          · exact hm c c1 g
          · have ec : c = k - 1 := Int32.toInt_inj.mp (by omega)
            rw [ec]
            rintro ⟨a, b⟩
            first | exact hN0 a | (rw [← hz0] at b; have q := congrArg Int32.toInt b; omega)
        ·
          refine hp_s (pc' := 45) (st' := [.int 1]) rfl rfl rfl ?_
          refine hp_rb rfl rfl (fun _ => ?_)
          exact K1 (Or.inr ⟨k - 1, by omega, by omega, hW0, by rw [← hz0]; exact Int32.toInt_inj.mp (by omega)⟩)
      ·
        intro h7
        have hN0 : ¬ hWr (rI p 67 (7 + x.toInt.toNat)) (k - 1) := by rw [show 7 + x.toInt.toNat = (7 + x.toInt).toNat by omega]; exact h7
        refine hp_id (st := [.int 0]) ?_
        refine hp_go (pc' := 46) rfl rfl rfl ?_
        refine hp_inc (L := fun z => [(3, .int z), (0, .ref 66), (1, .int x), (2, .int w)]) (pc' := 49) rfl rfl rfl (fun _ => rfl) rfl ?_
        intro z3 hz3
        have ez3 := i_add hz3 (show k.toInt = k.toInt from rfl) (show (Int32.ofInt 1).toInt = 1 from by decide)
        refine hp_go (pc' := 13) rfl rfl rfl ?_
        refine ih _ (by omega) (by omega) (fun c c1 c2 => ?_)
        by_cases g : c.toInt < k.toInt - 1
        · exact hm c c1 g
        · have ec : c = k - 1 := Int32.toInt_inj.mp (by omega)
          rw [ec]
          rintro ⟨a, b⟩
          first | exact hN0 a | (rw [← hz0] at b; have q := congrArg Int32.toInt b; omega)
theorem s_canBe {ro : List (List Int32)} {n d : Nat} {p : xH} {Q : Option Value → xH → Prop} {x : Int32} {xi : Int} {w : Int32} {wi : Int} (hx : x.toInt = xi) (hw : w.toInt = wi) (pre0 : 0 ≤ xi) (pre1 : xi < 7) (k0 : (hCan (rI p 67 xi.toNat) (rI p 71 xi.toNat) (rI p 67 (7 + xi.toNat)) w) → Q (some (.int (1))) p) (k1 : (¬ hCan (rI p 67 xi.toNat) (rI p 71 xi.toNat) (rI p 67 (7 + xi.toNat)) w) → Q (some (.int (0))) p) : hP ro n d (12, 4, 1, 2, k243) 0 (lv_args 0 [.ref 66, .int x, .int w]) [] p Q := by
  subst hx
  subst hw
  refine hp_id (ls := [(0, .ref 66), (1, .int x), (2, .int w)]) ?_
  refine hp_s (pc' := 1) (st' := [.int w]) rfl rfl rfl ?_
  refine hp_s (pc' := 2) (st' := [.ref 66, .int w]) rfl rfl rfl ?_
  refine hp_s (pc' := 3) (st' := [.int x, .ref 66, .int w]) rfl rfl rfl ?_
  refine hp_cv (r := 66) (o := 12) (kd := 1) (as := [.int x]) (rest := [.int w]) (pc' := 6) rfl rfl rfl rfl rfl rfl rfl rfl rfl (fun d1 => ?_)
  refine s_seenOf (xi := x.toInt) rfl ?_
  intro y1 h1 h2
  have hz0 := h2
  refine hp_id (st := [.int y1, .int w]) ?_
  refine hp_ic (pc' := 9) (t := 11) (a := w.toInt) (b := y1.toInt) rfl rfl rfl rfl rfl (fun (h3 : w.toInt ≠ y1.toInt) => ?_) (fun (h4 : ¬ (w.toInt ≠ y1.toInt)) => ?_)
  ·
    refine hp_s (pc' := 12) (st' := [.int 0]) rfl rfl rfl ?_
    refine hp_s (pc' := 13) (ls' := [(3, .int 0), (0, .ref 66), (1, .int x), (2, .int w)]) (st' := []) rfl rfl rfl ?_
    exact lp_243 (x := x) (w := w) (by omega) (by omega) (by intro e; rw [← hz0] at e; have q := congrArg Int32.toInt e; omega) k0 k1 n 0 (by decide) (by decide) (fun c c1 c2 => absurd c2 (by have h1 : (0 : Int32).toInt = 0 := (by decide); omega))
  ·
    refine hp_s (pc' := 10) (st' := [.int 1]) rfl rfl rfl ?_
    refine hp_rb rfl rfl (fun _ => ?_)
    first | (exact k0 (by first | assumption | omega | exact Or.inl (by rw [← hz0]; exact Int32.toInt_inj.mp (by omega)))) | (exfalso; omega)
theorem lp_244 {ro : List (List Int32)} {d : Nat} {Q : Option Value → xH → Prop} {x : Int32} {p : xH} (S0 : 0 ≤ (rI p 66 6).toInt) (S7 : (rI p 66 6).toInt ≤ 7) (x0 : 0 ≤ x.toInt) (x9 : x.toInt < 10) (K : ∀ z : Int32, hBs (fun j => hCan (rI p 67 j) (rI p 71 j) (rI p 67 (7 + j)) (rI p 89 (3 * x.toInt.toNat + 2))) (rI p 66 6).toInt.toNat z → Q (some (.int z)) p) : ∀ (n : Nat) (k : Int32) (b : Int32), (0 ≤ k.toInt) → (k.toInt ≤ (rI p 66 6).toInt) → (hBs (fun j => hCan (rI p 67 j) (rI p 71 j) (rI p 67 (7 + j)) (rI p 89 (3 * x.toInt.toNat + 2))) k.toInt.toNat b) → hP ro n d (12, 4, 1, 1, k244) 4 [(3, .int k), (2, .int b), (0, .ref 66), (1, .int x)] [] p Q := by
  intro n
  induction n with
  | zero => intros; exact hp_0
  | succ n ih =>
    intro k b h1 h2 hb
    refine hp_s1 (pc' := 5) (st' := [.int k]) rfl rfl rfl ?_
    refine hp_s (pc' := 6) (st' := [.ref 66, .int k]) rfl rfl rfl ?_
    refine hp_get (k := 6) (pc' := 9) (v := (rI p 66 6)) rfl rfl rfl rfl rfl rfl ?_
    refine hp_ic (pc' := 12) (t := 46) (a := k.toInt) (b := (rI p 66 6).toInt) rfl rfl rfl rfl rfl (fun (h1 : (rI p 66 6).toInt ≤ k.toInt) => ?_) (fun (h2 : ¬ ((rI p 66 6).toInt ≤ k.toInt)) => ?_)
    ·
      refine hp_s (pc' := 47) (st' := [.int b]) rfl rfl rfl ?_
      refine hp_ri rfl rfl ?_
      exact K _ (by rw [show (rI p 66 6).toInt.toNat = k.toInt.toNat by omega]; exact hb)
    ·
      refine hp_s (pc' := 13) (st' := [.int b]) rfl rfl rfl ?_
      refine hp_s (pc' := 14) (st' := [.ref 66, .int b]) rfl rfl rfl ?_
      refine hp_s (pc' := 15) (st' := [.int k, .ref 66, .int b]) rfl rfl rfl ?_
      refine hp_s (pc' := 16) (st' := [.ref 66, .int k, .ref 66, .int b]) rfl rfl rfl ?_
      refine hp_getr (k := 35) (w := .ref 89) (pc' := 19) rfl rfl rfl rfl rfl ?_
      refine hp_s (pc' := 20) (st' := [.int 3, .ref 89, .int k, .ref 66, .int b]) rfl rfl rfl ?_
      refine hp_s (pc' := 21) (st' := [.int x, .int 3, .ref 89, .int k, .ref 66, .int b]) rfl rfl rfl ?_
      refine hp_z (pc' := 22) (e := 3 * x) (st' := [.ref 89, .int k, .ref 66, .int b]) rfl rfl rfl ?_
      intro z1 hz1
      have ez1 := i_mul hz1 (show (3 : Int32).toInt = 3 from by decide) (show x.toInt = x.toInt from rfl)
      refine hp_s (pc' := 23) (st' := [.int 2, .int z1, .ref 89, .int k, .ref 66, .int b]) rfl rfl rfl ?_
      refine hp_z (pc' := 24) (e := z1 + 2) (st' := [.ref 89, .int k, .ref 66, .int b]) rfl rfl rfl ?_
      intro z2 hz2
      have ez2 := i_add hz2 (show z1.toInt = z1.toInt from rfl) (show (2 : Int32).toInt = 2 from by decide)
      refine hp_ld (t := 100) (v := (rI p 89 z2.toInt.toNat)) rfl (.inl rfl) rfl rfl rfl ?_
      intro (g1a : 0 ≤ z2.toInt) (g1b : z2.toInt < 30)
      have q9 : (rI p 89 z2.toInt.toNat) = rI p 89 (3 * x.toInt.toNat + 2) := by congr 1; omega
      refine hp_cv (r := 66) (o := 12) (kd := 1) (as := [.int k, .int (rI p 89 z2.toInt.toNat)]) (rest := [.int b]) (pc' := 28) rfl rfl rfl rfl rfl rfl rfl rfl rfl (fun d1 => ?_)
      refine s_canBe (xi := k.toInt) rfl (wi := (rI p 89 z2.toInt.toNat).toInt) rfl (by first | assumption | omega) (by first | assumption | omega) ?_ ?_
      ·
        intro h3
        have hC : hCan (rI p 67 k.toInt.toNat) (rI p 71 k.toInt.toNat) (rI p 67 (7 + k.toInt.toNat)) (rI p 89 (3 * x.toInt.toNat + 2)) := by rw [← q9]; exact h3
        refine hp_id (st := [.int 1, .int b]) ?_
        refine hp_go (pc' := 31) rfl rfl rfl ?_
        refine hp_s (pc' := 32) (st' := [.int 1, .int b]) rfl rfl rfl ?_
        refine hp_s (pc' := 33) (st' := [.int k, .int 1, .int b]) rfl rfl rfl ?_
        refine hp_z (pc' := 34) (e := 1 <<< (k &&& 31)) (st' := [.int b]) rfl rfl rfl ?_
        intro z3 hz3
        refine hp_go (pc' := 38) rfl rfl rfl ?_
        refine hp_z (pc' := 39) (e := b ||| z3) (st' := []) rfl rfl rfl ?_
        intro z4 hz4
        refine hp_s (pc' := 40) (ls' := [(2, .int z4), (3, .int k), (0, .ref 66), (1, .int x)]) (st' := []) rfl rfl rfl ?_
        refine hp_inc (L := fun z => [(3, .int z), (2, .int z4), (0, .ref 66), (1, .int x)]) (pc' := 43) rfl rfl rfl (fun _ => rfl) rfl ?_
        intro z5 hz5
        have ez5 := i_add hz5 (show k.toInt = k.toInt from rfl) (show (Int32.ofInt 1).toInt = 1 from by decide)
        refine hp_go (pc' := 4) rfl rfl rfl ?_
        refine ih _ _ (by omega) (by omega) ?_
        rw [show z5.toInt.toNat = k.toInt.toNat + 1 by omega]
        first | exact ⟨b, hb, Or.inl ⟨hC, by rw [i_nat (by omega)]; subst_vars; rfl⟩⟩ | exact ⟨b, hb, Or.inr ⟨hC, by subst_vars; first | rfl | exact Int32.or_zero⟩⟩
      ·
        intro h4
        have hC : ¬ hCan (rI p 67 k.toInt.toNat) (rI p 71 k.toInt.toNat) (rI p 67 (7 + k.toInt.toNat)) (rI p 89 (3 * x.toInt.toNat + 2)) := by rw [← q9]; exact h4
        refine hp_id (st := [.int 0, .int b]) ?_
        refine hp_go (pc' := 37) rfl rfl rfl ?_
        refine hp_s (pc' := 38) (st' := [.int 0, .int b]) rfl rfl rfl ?_
        refine hp_z (pc' := 39) (e := b ||| 0) (st' := []) rfl rfl rfl ?_
        intro z6 hz6
        refine hp_s (pc' := 40) (ls' := [(2, .int z6), (3, .int k), (0, .ref 66), (1, .int x)]) (st' := []) rfl rfl rfl ?_
        refine hp_inc (L := fun z => [(3, .int z), (2, .int z6), (0, .ref 66), (1, .int x)]) (pc' := 43) rfl rfl rfl (fun _ => rfl) rfl ?_
        intro z7 hz7
        have ez7 := i_add hz7 (show k.toInt = k.toInt from rfl) (show (Int32.ofInt 1).toInt = 1 from by decide)
        refine hp_go (pc' := 4) rfl rfl rfl ?_
        refine ih _ _ (by omega) (by omega) ?_
        rw [show z7.toInt.toNat = k.toInt.toNat + 1 by omega]
        first | exact ⟨b, hb, Or.inl ⟨hC, by rw [i_nat (by omega)]; subst_vars; rfl⟩⟩ | exact ⟨b, hb, Or.inr ⟨hC, by subst_vars; first | rfl | exact Int32.or_zero⟩⟩
theorem s_whoIs {ro : List (List Int32)} {n d : Nat} {p : xH} {Q : Option Value → xH → Prop} {x : Int32} {xi : Int} (hx : x.toInt = xi) (pre0 : 0 ≤ (rI p 66 6).toInt) (pre1 : (rI p 66 6).toInt ≤ 7) (pre2 : 0 ≤ xi) (pre3 : xi < 10) (k0 : ∀ z : Int32, (hBs (fun j => hCan (rI p 67 j) (rI p 71 j) (rI p 67 (7 + j)) (rI p 89 (3 * xi.toNat + 2))) (rI p 66 6).toInt.toNat z) → Q (some (.int z)) p) : hP ro n d (12, 4, 1, 1, k244) 0 (lv_args 0 [.ref 66, .int x]) [] p Q := by
  subst hx
  refine hp_id (ls := [(0, .ref 66), (1, .int x)]) ?_
  refine hp_s (pc' := 1) (st' := [.int 0]) rfl rfl rfl ?_
  refine hp_s (pc' := 2) (ls' := [(2, .int 0), (0, .ref 66), (1, .int x)]) (st' := []) rfl rfl rfl ?_
  refine hp_s (pc' := 3) (st' := [.int 0]) rfl rfl rfl ?_
  refine hp_s (pc' := 4) (ls' := [(3, .int 0), (2, .int 0), (0, .ref 66), (1, .int x)]) (st' := []) rfl rfl rfl ?_
  exact lp_244 (x := x) (by omega) (by omega) (by omega) (by omega) k0 n 0 0 (by decide) (by have h00 : (0 : Int32).toInt = 0 := (by decide); omega) (by rw [show (0 : Int32).toInt.toNat = 0 by decide]; rfl)
theorem M_who {ro : List (List Int32)} {n d : Nat} {p : xH} {Q : Option Value → xH → Prop} {x : Int32} {xi : Int} (hx : x.toInt = xi) (pre0 : 0 ≤ (rI p 66 6).toInt) (pre1 : (rI p 66 6).toInt ≤ 7) (pre2 : 0 ≤ (rI p 66 34).toInt) (pre3 : (rI p 66 34).toInt ≤ 10) (k0 : (¬ (0 ≤ xi ∧ xi < (rI p 66 34).toInt)) → Q (some (.int (-1))) p) (k1 : ∀ z : Int32, (0 ≤ xi) → (xi < (rI p 66 34).toInt) → (hBs (fun j => hCan (rI p 67 j) (rI p 71 j) (rI p 67 (7 + j)) (rI p 89 (3 * xi.toNat + 2))) (rI p 66 6).toInt.toNat z) → Q (some (.int z)) p) : hP ro n d (12, 2, 1, 1, k245) 0 (lv_args 0 [.ref 66, .int x]) [] p Q := by
  subst hx
  refine hp_id (ls := [(0, .ref 66), (1, .int x)]) ?_
  refine hp_s (pc' := 1) (st' := [.int x]) rfl rfl rfl ?_
  refine hp_i2l (pc' := 2) rfl rfl ?_
  intro z1 hz1 ez1
  refine hp_s (pc' := 3) (st' := [.long 0, .long z1]) rfl rfl rfl ?_
  refine hp_s (pc' := 4) (st' := [.ref 66, .long 0, .long z1]) rfl rfl rfl ?_
  refine hp_get (k := 34) (pc' := 7) (v := (rI p 66 34)) rfl rfl rfl rfl rfl rfl ?_
  refine hp_s (pc' := 8) (st' := [.int 1, .int (rI p 66 34), .long 0, .long z1]) rfl rfl rfl ?_
  refine hp_z (pc' := 9) (e := (rI p 66 34) - 1) (st' := [.long 0, .long z1]) rfl rfl rfl ?_
  intro z2 hz2
  have ez2 := i_sub hz2 (show (rI p 66 34).toInt = (rI p 66 34).toInt from rfl) (show (1 : Int32).toInt = 1 from by decide)
  refine hp_i2l (pc' := 10) rfl rfl ?_
  intro z3 hz3 ez3
  refine hp_cs (kd := 0) (as := [.long z1, .long 0, .long z3]) (rest := []) (pc' := 13) rfl rfl rfl rfl rfl rfl rfl (fun d1 => ?_)
  refine s_within (vi := x.toInt) ez1 (ai := 0) (by decide) (bi := z2.toInt) ez3 ?_ ?_
  ·
    intro h1 h2
    refine hp_id (st := [.int 1]) ?_
    refine hp_go (pc' := 16) rfl rfl rfl ?_
    refine hp_s (pc' := 17) (st' := [.ref 66]) rfl rfl rfl ?_
    refine hp_s (pc' := 18) (st' := [.int x, .ref 66]) rfl rfl rfl ?_
    refine hp_cv (r := 66) (o := 12) (kd := 1) (as := [.int x]) (rest := []) (pc' := 21) rfl rfl rfl rfl rfl rfl rfl rfl rfl (fun d2 => ?_)
    refine s_whoIs (xi := x.toInt) rfl (by first | assumption | omega) (by first | assumption | omega) (by first | assumption | omega) (by first | assumption | omega) ?_
    intro y1 h3
    refine hp_id (st := [.int y1]) ?_
    refine hp_go (pc' := 25) rfl rfl rfl ?_
    refine hp_ri rfl rfl ?_
    first | (exact k0 (by first | assumption | omega)) | (exact k1 _ (by first | assumption | omega) (by first | assumption | omega) (by first | assumption | omega)) | (exfalso; omega)
  ·
    intro h4
    refine hp_id (st := [.int 0]) ?_
    refine hp_go (pc' := 24) rfl rfl rfl ?_
    refine hp_s (pc' := 25) (st' := [.int (-1)]) rfl rfl rfl ?_
    refine hp_ri rfl rfl ?_
    first | (exact k0 (by first | assumption | omega)) | (exact k1 _ (by first | assumption | omega) (by first | assumption | omega) (by first | assumption | omega)) | (exfalso; omega)
