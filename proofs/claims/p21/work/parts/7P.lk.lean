/-! contracts of methods, walked -/
abbrev T_lk : List (Nat × Nat) := [(20, 4), (23, 9999), (24, 9999), (33, 9999)]
abbrev T_ml : List (Nat × Nat) := [(66, 15), (66, 16), (66, 17), (66, 18), (66, 19), (77, 9999), (78, 9999)]
theorem hp_le {ro : List (List Int32)} {n m d : Nat} {q : xQ} {pc : Nat} {ls : xL} {st : List Value} {p : xH} {Q : Option Value → xH → Prop} (hm : m ≤ n) (h : hP ro n d q pc ls st p Q) : hP ro m d q pc ls st p Q := by
  obtain ⟨k, rfl⟩ := Nat.exists_eq_add_of_le hm
  clear hm
  induction k with
  | zero => exact h
  | succ k ih => exact ih (hp_more h)
theorem lXo_nt {T : List (Nat × Nat)} {p p2 : xH} {lo : Option (List yN)} (n : hNt T p p2) (h20 : hF T 20 2 = false) (h21 : ∀ j, hF T 21 j = false) (h22 : ∀ j, hF T 22 j = false) (h : lXo p lo) : lXo p2 lo := by
  cases lo with
  | none => show (rI p2 20 2).toInt = 0; rw [n.int h20]; exact h
  | some ls =>
    obtain ⟨a1, a2, a3, a4, a5⟩ := h
    exact ⟨a1, a2, by rw [n.int h20]; exact a3, hCd_same a4 (fun j _ _ => ⟨n _ _ (h21 j), n _ _ (h22 j)⟩), a5⟩
theorem lMo_nt {T : List (Nat × Nat)} {p p2 : xH} {lo : Option (List yN)} (n : hNt T p p2) (h14 : hF T 66 14 = false) (h76 : ∀ j, hF T 76 j = false) (h : lMo p lo) : lMo p2 lo := by
  cases lo with
  | none => show (rI p2 66 14).toInt = -1; rw [n.int h14]; exact h
  | some ls =>
    obtain ⟨a1, a2, a3⟩ := h
    have e : gM p2 0 (rI p 66 14).toInt = gM p 0 (rI p 66 14).toInt := by
      funext j
      unfold gM
      have z : ¬ ((0 : Int) < 0) := by decide
      rw [if_neg z, if_neg z, n.int (h76 j)]
    show 0 ≤ (rI p2 66 14).toInt ∧ (rI p2 66 14).toInt ≤ 120 ∧ yT (gM p2 0 (rI p2 66 14).toInt) 0 [] (some ls, (rI p2 66 14).toInt.toNat)
    rw [n.int h14, e]
    exact ⟨a1, a2, a3⟩
/-- the people, as they are asked -/
abbrev F_pe : List (Nat × Nat) := [(14, 9999), (16, 9999), (2, 9999), (13, 9), (13, 8)]
abbrev F_pm : List (Nat × Nat) := [(67, 9999), (71, 9999)]
theorem aA_sm {p p2 : xH} (h : hSm F_pe p p2) : aA p2 = aA p := by
  funext n k
  unfold aA lkA
  rw [h.int (r := 14) rfl, h.int (r := 16) rfl, h.int (r := 2) rfl]
theorem Xal_sm {p p2 : xH} {lo : Option (List yN)} (h : hSm F_pe p p2) : Xal p2 lo = Xal p lo := by
  funext k x y
  unfold Xal moA
  rw [aA_sm h, h.int (r := 2) rfl, h.int (r := 2) rfl, h.int (r := 13) (k := 9) rfl, h.int (r := 13) (k := 8) rfl]
theorem Mal_sm {p p2 : xH} {lo : Option (List yN)} (h : hSm F_pm p p2) : Mal p2 lo = Mal p lo := by
  funext x y
  unfold Mal mS
  rw [h.int (r := 67) rfl, h.int (r := 67) rfl, h.int (r := 71) rfl, h.int (r := 71) rfl, h.int (r := 67) rfl, h.int (r := 67) rfl]
/-- the pairs that have been asked: the lesser ahead of x, or x and the other ahead of q -/
def LKs (p0 p : xH) (P : Nat → Nat → Prop) (S x q : Nat) : Prop := hNt T_lk p0 p ∧ ∀ n, n < 7 → ∀ k, k < 32 → (bI (rI p 33 n) k = true ↔ n < S ∧ k < S ∧ n ≠ k ∧ P n k ∧ (n < x ∨ k < x ∨ (n = x ∧ k < q) ∨ (k = x ∧ n < q)))
theorem LK_0 {p0 p : xH} {P : Nat → Nat → Prop} {S : Nat} (n : hNt T_lk p0 p) (h : ∀ j, j < 7 → rI p 33 j = 0) : LKs p0 p P S 0 0 := ⟨n, fun n hn k _ => by
  rw [h n hn, bI_0]
  exact ⟨fun a => (by cases a), fun ⟨_, _, _, _, e⟩ => (by omega)⟩⟩
theorem LK_in {p0 p : xH} {P : Nat → Nat → Prop} {S x : Nat} (h : LKs p0 p P S x 0) : LKs p0 p P S x (x + 1) := ⟨h.1, fun n hn k hk => by
  rw [h.2 n hn k hk]
  exact ⟨fun ⟨a, b, c, e, f⟩ => ⟨a, b, c, e, by omega⟩, fun ⟨a, b, c, e, f⟩ => ⟨a, b, c, e, by omega⟩⟩⟩
theorem LK_out {p0 p : xH} {P : Nat → Nat → Prop} {S x q : Nat} (hq : S ≤ q) (h : LKs p0 p P S x q) : LKs p0 p P S (x + 1) 0 := ⟨h.1, fun n hn k hk => by
  rw [h.2 n hn k hk]
  exact ⟨fun ⟨a, b, c, e, f⟩ => ⟨a, b, c, e, by omega⟩, fun ⟨a, b, c, e, f⟩ => ⟨a, b, c, e, by omega⟩⟩⟩
theorem LK_no {p0 p p2 : xH} {P : Nat → Nat → Prop} {S x q : Nat} (hP : ¬ P x q) (hc : ∀ a b, P a b → P b a) (h : LKs p0 p P S x q) (n2 : hNt T_h p p2) : LKs p0 p2 P S x (q + 1) := ⟨h.1.trans (n2.up (by decide)), fun n hn k hk => by
  rw [n2.int (r := 33) rfl, h.2 n hn k hk]
  refine ⟨fun ⟨a, b, c, e, f⟩ => ⟨a, b, c, e, by omega⟩, fun ⟨a, b, c, e, f⟩ => ⟨a, b, c, e, ?_⟩⟩
  by_cases g : n = x ∧ k = q
  · rw [g.1, g.2] at e; exact absurd e hP
  · by_cases g2 : k = x ∧ n = q
    · rw [g2.1, g2.2] at e; exact absurd (hc _ _ e) hP
    · omega⟩
theorem LK_yes {p0 p p2 p3 p4 : xH} {P : Nat → Nat → Prop} {S x q : Nat} {X Y z1 z2 : Int32} (hP : P x q) (hc : ∀ a b, P a b → P b a) (h : LKs p0 p P S x q) (n2 : hNt T_h p p2) (hw2 : hW p2) (hX : X.toInt = x) (hY : Y.toInt = q) (hxq : x < q) (hq : q < S) (hS : S ≤ 7)
    (e1 : z1 = rI p 33 X.toInt.toNat ||| ((1 : Int32) <<< (Y &&& 31))) (e3 : p3 = wV p2 33 X.toInt.toNat (.int z1)) (e2 : z2 = rI p 33 Y.toInt.toNat ||| ((1 : Int32) <<< (X &&& 31))) (e4 : p4 = wV p3 33 Y.toInt.toNat (.int z2)) : LKs p0 p4 P S x (q + 1) := by
  have hx : X.toInt.toNat = x := i_to hX
  have hy : Y.toInt.toNat = q := i_to hY
  rw [hx] at e1 e3
  rw [hy] at e2 e4
  have w3 : hW p3 := by rw [e3]; exact hW_wV hw2 rfl
  refine ⟨h.1.trans (hNt.trans (n2.up (by decide)) (by rw [e4, e3]; exact ((hNt.refl _ _).w rfl).w rfl)), fun n hn k hk => ?_⟩
  have r4 : rI p4 33 n = if n = q then z2 else if n = x then z1 else rI p 33 n := by
    rw [e4, rI_w w3 (by show _ < 7; omega), e3, rI_w hw2 (by show _ < 7; omega), n2.int (r := 33) rfl]
  rw [r4]
  have hn0 := h.2 n hn k hk
  by_cases g1 : n = q
  · subst g1
    rw [if_pos rfl, e2, bI_or, Bool.or_eq_true, hn0, bI_p hX (by omega) hk, decide_eq_true_iff]
    constructor
    · rintro (⟨a, b, c, e, f⟩ | g)
      · exact ⟨a, b, c, e, by omega⟩
      · subst g; exact ⟨hq, by omega, by omega, hc _ _ hP, by omega⟩
    · rintro ⟨a, b, c, e, f⟩
      by_cases g : k = x
      · exact Or.inr g
      · exact Or.inl ⟨a, b, c, e, by omega⟩
  · rw [if_neg g1]
    by_cases g2 : n = x
    · subst g2
      rw [if_pos rfl, e1, bI_or, Bool.or_eq_true, hn0, bI_p hY (by omega) hk, decide_eq_true_iff]
      constructor
      · rintro (⟨a, b, c, e, f⟩ | g)
        · exact ⟨a, b, c, e, by omega⟩
        · subst g; exact ⟨by omega, hq, by omega, hP, by omega⟩
      · rintro ⟨a, b, c, e, f⟩
        by_cases g : k = q
        · exact Or.inr g
        · exact Or.inl ⟨a, b, c, e, by omega⟩
    · rw [if_neg g2, hn0]
      exact ⟨fun ⟨a, b, c, e, f⟩ => ⟨a, b, c, e, by omega⟩, fun ⟨a, b, c, e, f⟩ => ⟨a, b, c, e, by omega⟩⟩
theorem LK_end {p0 p : xH} {P : Nat → Nat → Prop} {S x : Nat} (hx : S ≤ x) (hS : S ≤ 7) (h : LKs p0 p P S x 0) : ∀ n, n < S → hLk P S n (rI p 33 n) := fun n hn k hk => by
  rw [h.2 n (by omega) k hk]
  exact ⟨fun ⟨a, b, c, e, f⟩ => ⟨b, c, e⟩, fun ⟨b, c, e⟩ => ⟨hn, b, c, e, by omega⟩⟩
theorem lp_52a {ro : List (List Int32)} {d : Nat} {Q : Option Value → xH → Prop} {p0 : xH} {N : Nat} (K : ∀ m : Nat, m ≤ N → ∀ (k : Int32) (p2 : xH), (hNt [(33, 9999)] p0 p2) → (∀ j, j < 7 → rI p2 33 j = 0) → hP ro m d (4, 3, 1, 0, k52) 21 [(1, .int k), (0, .ref 32)] [] p2 Q) : ∀ (n : Nat) (hn : n ≤ N) (k : Int32) (p : xH), (0 ≤ k.toInt) → (k.toInt ≤ 7) → (hNt [(33, 9999)] p0 p) → (∀ j, j < k.toInt.toNat → rI p 33 j = 0) → hP ro n d (4, 3, 1, 0, k52) 2 [(1, .int k), (0, .ref 32)] [] p Q := by
  intro n
  induction n with
  | zero => intros; exact hp_0
  | succ n ih =>
    intro hn k p h1 h2 hN hz
    refine hp_hw (fun wp => ?_)
    refine hp_s1 (pc' := 3) (st' := [.int k]) rfl rfl rfl ?_
    refine hp_s (pc' := 5) (st' := [.int 7, .int k]) rfl rfl rfl ?_
    refine hp_ic (pc' := 8) (t := 21) (a := k.toInt) (b := 7) rfl rfl rfl rfl (by decide) (fun (h1 : 7 ≤ k.toInt) => ?_) (fun (h2 : ¬ (7 ≤ k.toInt)) => ?_)
    ·
      exact K n (by omega) _ _ hN (fun j hj => hz j (by omega))
    ·
      refine hp_s (pc' := 9) (st' := [.ref 32]) rfl rfl rfl ?_
      refine hp_getr (k := 2) (w := .ref 33) (pc' := 12) rfl rfl rfl rfl rfl ?_
      refine hp_s (pc' := 13) (st' := [.int k, .ref 33]) rfl rfl rfl ?_
      refine hp_s (pc' := 14) (st' := [.int 0, .int k, .ref 33]) rfl rfl rfl ?_
      refine hp_st (t := 100) rfl (.inl rfl) rfl rfl ?_
      intro p1 wp1 (p1a : 0 ≤ k.toInt) (p1b : k.toInt < 7) ep1
      refine hp_inc (L := fun z_ => [(1, .int z_), (0, .ref 32)]) (pc' := 18) rfl rfl rfl (fun _ => rfl) rfl ?_
      intro z1 hz1
      have ez1 := i_add hz1 (show k.toInt = k.toInt from rfl) (show (Int32.ofInt 1).toInt = 1 from by decide)
      refine hp_go (pc' := 2) rfl rfl rfl ?_
      refine ih (by omega) z1 _ (by omega) (by omega) (by rw [ep1]; exact hN.w rfl) (fun j hj => ?_)
      rw [ep1, rI_w wp (by show _ < 7; omega)]
      by_cases g : j = k.toInt.toNat
      · rw [if_pos g]
      · rw [if_neg g]; exact hz j (by omega)
theorem lp_52c {ro : List (List Int32)} {d : Nat} {Q : Option Value → xH → Prop} {p0 : xH} {lo : Option (List yN)} {x : Int32} {N : Nat} (g0 : lXo p0 lo) (g1 : ∀ j, -1 ≤ (rI p0 2 j).toInt) (g2 : 0 ≤ (rI p0 13 7).toInt) (g3 : (rI p0 13 7).toInt ≤ 7) (g4 : 0 ≤ (rI p0 13 9).toInt) (g5 : (rI p0 13 9).toInt ≤ 63) (hx : 0 ≤ x.toInt) (hx2 : x.toInt < (rI p0 13 7).toInt) (K : ∀ m : Nat, m ≤ N → ∀ (q : Int32) (p2 : xH), ((rI p0 13 7).toInt ≤ q.toInt) → (LKs p0 p2 (Xal p0 lo 0) (rI p0 13 7).toInt.toNat x.toInt.toNat q.toInt.toNat) → hP ro m d (4, 3, 1, 0, k52) 92 [(2, .int q), (1, .int x), (0, .ref 32)] [] p2 Q) : ∀ (n : Nat) (hn : n ≤ N) (q : Int32) (p : xH), (x.toInt < q.toInt) → (q.toInt ≤ (rI p0 13 7).toInt ∨ q.toInt = x.toInt + 1) → (LKs p0 p (Xal p0 lo 0) (rI p0 13 7).toInt.toNat x.toInt.toNat q.toInt.toNat) → hP ro n d (4, 3, 1, 0, k52) 38 [(2, .int q), (1, .int x), (0, .ref 32)] [] p Q := by
  intro n
  induction n with
  | zero => intros; exact hp_0
  | succ n ih =>
    intro hn q p h1 h2 hL
    refine hp_hw (fun wp => ?_)
    have e7 : (rI p 13 7).toInt = (rI p0 13 7).toInt := by rw [hL.1.int (r := 13) (k := 7) rfl]
    have hlo : lXo p lo := lXo_nt hL.1 rfl (fun _ => rfl) (fun _ => rfl) g0
    have e9 : (rI p 13 9).toInt = (rI p0 13 9).toInt := by rw [hL.1.int (r := 13) (k := 9) rfl]
    have e2b : ∀ j, -1 ≤ (rI p 2 j).toInt := fun j => by rw [hL.1.int (r := 2) rfl]; exact g1 j
    have eX : Xal p lo = Xal p0 lo := Xal_sm (hL.1.sm (by decide))
    refine hp_s1 (pc' := 39) (st' := [.int q]) rfl rfl rfl ?_
    refine hp_s (pc' := 40) (st' := [.ref 32, .int q]) rfl rfl rfl ?_
    refine hp_getr (k := 0) (w := .ref 13) (pc' := 43) rfl rfl rfl rfl rfl ?_
    refine hp_get (k := 7) (pc' := 46) (v := (rI p 13 7)) rfl rfl rfl rfl rfl rfl ?_
    refine hp_ic (pc' := 49) (t := 92) (a := q.toInt) (b := (rI p 13 7).toInt) rfl rfl rfl rfl rfl (fun (h1 : (rI p 13 7).toInt ≤ q.toInt) => ?_) (fun (h2 : ¬ ((rI p 13 7).toInt ≤ q.toInt)) => ?_)
    ·
      exact K n (by omega) _ _ (by omega) hL
    ·
      refine hp_s (pc' := 50) (st' := [.ref 32]) rfl rfl rfl ?_
      refine hp_s (pc' := 51) (st' := [.int x, .ref 32]) rfl rfl rfl ?_
      refine hp_s (pc' := 52) (st' := [.int q, .int x, .ref 32]) rfl rfl rfl ?_
      refine hp_s (pc' := 53) (st' := [.int 0, .int q, .int x, .ref 32]) rfl rfl rfl ?_
      refine hp_cv (r := 32) (o := 4) (kd := 1) (as := [.int x, .int q, .int 0]) (rest := []) (pc' := 56) rfl rfl rfl rfl rfl rfl rfl rfl rfl (fun d1 => ?_)
      refine s_isAfter lo (xi := x.toInt) rfl (yi := q.toInt) rfl (ki := 0) (by decide) (by first | assumption | omega) (by first | assumption | omega) (by first | assumption | omega) (by first | assumption | omega) (by first | assumption | omega) (by first | assumption | omega) ?_ ?_
      ·
        intro p1 h3 h4
        rw [eX] at h4
        refine hp_hw (fun w2 => ?_)
        refine hp_id (st := [.int 1]) ?_
        refine hp_go (pc' := 62) rfl rfl rfl ?_
        refine hp_s (pc' := 63) (st' := [.ref 32]) rfl rfl rfl ?_
        refine hp_getr (k := 2) (w := .ref 33) (pc' := 66) rfl rfl rfl rfl rfl ?_
        refine hp_s (pc' := 67) (st' := [.int x, .ref 33]) rfl rfl rfl ?_
        refine hp_s (pc' := 68) (st' := [.int x, .ref 33, .int x, .ref 33]) rfl rfl rfl ?_
        refine hp_ld (t := 100) (v := (rI p 33 x.toInt.toNat)) rfl (.inl rfl) rfl rfl (by rw [h3.int (r := 33) rfl]) ?_
        intro (g1a : 0 ≤ x.toInt) (g1b : x.toInt < 7)
        refine hp_s (pc' := 70) (st' := [.int 1, .int (rI p 33 x.toInt.toNat), .int x, .ref 33]) rfl rfl rfl ?_
        refine hp_s (pc' := 71) (st' := [.int q, .int 1, .int (rI p 33 x.toInt.toNat), .int x, .ref 33]) rfl rfl rfl ?_
        refine hp_z (pc' := 72) (e := 1 <<< (q &&& 31)) (st' := [.int (rI p 33 x.toInt.toNat), .int x, .ref 33]) rfl rfl rfl ?_
        intro z1 hz1
        refine hp_z (pc' := 73) (e := (rI p 33 x.toInt.toNat) ||| z1) (st' := [.int x, .ref 33]) rfl rfl rfl ?_
        intro z2 hz2
        refine hp_st (t := 100) rfl (.inl rfl) rfl rfl ?_
        intro p2 wp2 (p2a : 0 ≤ x.toInt) (p2b : x.toInt < 7) ep2
        refine hp_s (pc' := 75) (st' := [.ref 32]) rfl rfl rfl ?_
        refine hp_getr (k := 2) (w := .ref 33) (pc' := 78) rfl rfl rfl rfl rfl ?_
        refine hp_s (pc' := 79) (st' := [.int q, .ref 33]) rfl rfl rfl ?_
        refine hp_s (pc' := 80) (st' := [.int q, .ref 33, .int q, .ref 33]) rfl rfl rfl ?_
        refine hp_ld (t := 100) (v := (rI p2 33 q.toInt.toNat)) rfl (.inl rfl) rfl rfl rfl ?_
        intro (g2a : 0 ≤ q.toInt) (g2b : q.toInt < 7)
        refine hp_s (pc' := 82) (st' := [.int 1, .int (rI p2 33 q.toInt.toNat), .int q, .ref 33]) rfl rfl rfl ?_
        refine hp_s (pc' := 83) (st' := [.int x, .int 1, .int (rI p2 33 q.toInt.toNat), .int q, .ref 33]) rfl rfl rfl ?_
        refine hp_z (pc' := 84) (e := 1 <<< (x &&& 31)) (st' := [.int (rI p2 33 q.toInt.toNat), .int q, .ref 33]) rfl rfl rfl ?_
        intro z3 hz3
        refine hp_z (pc' := 85) (e := (rI p2 33 q.toInt.toNat) ||| z3) (st' := [.int q, .ref 33]) rfl rfl rfl ?_
        intro z4 hz4
        refine hp_st (t := 100) rfl (.inl rfl) rfl rfl ?_
        intro p3 wp3 (p3a : 0 ≤ q.toInt) (p3b : q.toInt < 7) ep3
        refine hp_inc (L := fun z_ => [(2, .int z_), (1, .int x), (0, .ref 32)]) (pc' := 89) rfl rfl rfl (fun _ => rfl) rfl ?_
        intro z5 hz5
        have ez5 := i_add hz5 (show q.toInt = q.toInt from rfl) (show (Int32.ofInt 1).toInt = 1 from by decide)
        refine hp_go (pc' := 38) rfl rfl rfl ?_
        have r33 : rI p2 33 q.toInt.toNat = rI p 33 q.toInt.toNat := by rw [ep2, rI_ne (fun _ => by omega), h3.int (r := 33) rfl]
        exact ih (by omega) z5 _ (by omega) (by omega) (by rw [show z5.toInt.toNat = q.toInt.toNat + 1 by omega]; exact LK_yes (X := x) (Y := q) (z1 := z2) (z2 := z4) h4 (fun _ _ => Xal_c) hL h3 w2 (by omega) (by omega) (by omega) (by omega) (by omega) (by rw [hz2, hz1]) ep2 (by rw [hz4, r33, hz3]) ep3)
      ·
        intro p4 h5 h6
        rw [eX] at h6
        refine hp_id (st := [.int 0]) ?_
        refine hp_go (pc' := 59) rfl rfl rfl ?_
        refine hp_go (pc' := 86) rfl rfl rfl ?_
        refine hp_inc (L := fun z_ => [(2, .int z_), (1, .int x), (0, .ref 32)]) (pc' := 89) rfl rfl rfl (fun _ => rfl) rfl ?_
        intro z6 hz6
        have ez6 := i_add hz6 (show q.toInt = q.toInt from rfl) (show (Int32.ofInt 1).toInt = 1 from by decide)
        refine hp_go (pc' := 38) rfl rfl rfl ?_
        exact ih (by omega) z6 _ (by omega) (by omega) (by rw [show z6.toInt.toNat = q.toInt.toNat + 1 by omega]; exact LK_no h6 (fun _ _ => Xal_c) hL h5)
theorem lp_52b {ro : List (List Int32)} {d : Nat} {Q : Option Value → xH → Prop} {p0 : xH} {lo : Option (List yN)} {N : Nat} (g0 : lXo p0 lo) (g1 : ∀ j, -1 ≤ (rI p0 2 j).toInt) (g2 : 0 ≤ (rI p0 13 7).toInt) (g3 : (rI p0 13 7).toInt ≤ 7) (g4 : 0 ≤ (rI p0 13 9).toInt) (g5 : (rI p0 13 9).toInt ≤ 63) (K : ∀ m : Nat, m ≤ N → ∀ (x : Int32) (p2 : xH) (t : Int32), ((rI p0 13 7).toInt ≤ x.toInt) → (LKs p0 p2 (Xal p0 lo 0) (rI p0 13 7).toInt.toNat x.toInt.toNat 0) → hP ro m d (4, 3, 1, 0, k52) 98 [(1, .int x), (2, .int t), (0, .ref 32)] [] p2 Q) : ∀ (n : Nat) (hn : n ≤ N) (x : Int32) (p : xH) (t : Int32), (0 ≤ x.toInt) → (x.toInt ≤ (rI p0 13 7).toInt) → (LKs p0 p (Xal p0 lo 0) (rI p0 13 7).toInt.toNat x.toInt.toNat 0) → hP ro n d (4, 3, 1, 0, k52) 23 [(1, .int x), (2, .int t), (0, .ref 32)] [] p Q := by
  intro n
  induction n with
  | zero => intros; exact hp_0
  | succ n ih =>
    intro hn x p t h1 h2 hL
    refine hp_hw (fun wp => ?_)
    have e7 : (rI p 13 7).toInt = (rI p0 13 7).toInt := by rw [hL.1.int (r := 13) (k := 7) rfl]
    have hlo : lXo p lo := lXo_nt hL.1 rfl (fun _ => rfl) (fun _ => rfl) g0
    have e9 : (rI p 13 9).toInt = (rI p0 13 9).toInt := by rw [hL.1.int (r := 13) (k := 9) rfl]
    have e2b : ∀ j, -1 ≤ (rI p 2 j).toInt := fun j => by rw [hL.1.int (r := 2) rfl]; exact g1 j
    have eX : Xal p lo = Xal p0 lo := Xal_sm (hL.1.sm (by decide))
    refine hp_s1 (pc' := 24) (st' := [.int x]) rfl rfl rfl ?_
    refine hp_s (pc' := 25) (st' := [.ref 32, .int x]) rfl rfl rfl ?_
    refine hp_getr (k := 0) (w := .ref 13) (pc' := 28) rfl rfl rfl rfl rfl ?_
    refine hp_get (k := 7) (pc' := 31) (v := (rI p 13 7)) rfl rfl rfl rfl rfl rfl ?_
    refine hp_ic (pc' := 34) (t := 98) (a := x.toInt) (b := (rI p 13 7).toInt) rfl rfl rfl rfl rfl (fun (h1 : (rI p 13 7).toInt ≤ x.toInt) => ?_) (fun (h2 : ¬ ((rI p 13 7).toInt ≤ x.toInt)) => ?_)
    ·
      exact K n (by omega) _ _ _ (by omega) hL
    ·
      refine hp_s (pc' := 35) (st' := [.int x]) rfl rfl rfl ?_
      refine hp_s (pc' := 36) (st' := [.int 1, .int x]) rfl rfl rfl ?_
      refine hp_z (pc' := 37) (e := x + 1) (st' := []) rfl rfl rfl ?_
      intro z1 hz1
      have ez1 := i_add hz1 (show x.toInt = x.toInt from rfl) (show (1 : Int32).toInt = 1 from by decide)
      refine hp_s (pc' := 38) (ls' := [(2, .int z1), (1, .int x), (0, .ref 32)]) (st' := []) rfl rfl rfl ?_
      refine lp_52c (N := n) g0 g1 g2 g3 g4 g5 h1 (by omega) (fun m0 hm0 q p2 j1 j2 => ?_) n (Nat.le_refl _) z1 p (by omega) (by omega) (by rw [show z1.toInt.toNat = x.toInt.toNat + 1 by omega]; exact LK_in hL)
      refine hp_inc (L := fun z_ => [(1, .int z_), (2, .int q), (0, .ref 32)]) (pc' := 95) rfl rfl rfl (fun _ => rfl) rfl ?_
      intro z2 hz2
      have ez2 := i_add hz2 (show x.toInt = x.toInt from rfl) (show (Int32.ofInt 1).toInt = 1 from by decide)
      refine hp_go (pc' := 23) rfl rfl rfl ?_
      exact hp_le hm0 (ih (by omega) z2 _ q (by omega) (by omega) (by rw [show z2.toInt.toNat = x.toInt.toNat + 1 by omega]; exact LK_out (by omega) j2))
theorem s_lookAround {ro : List (List Int32)} {n d : Nat} {p : xH} {Q : Option Value → xH → Prop} (lo : Option (List yN))  (pre0 : lXo p lo) (pre1 : ∀ j, -1 ≤ (rI p 2 j).toInt) (pre2 : 0 ≤ (rI p 13 7).toInt) (pre3 : (rI p 13 7).toInt ≤ 7) (pre4 : 0 ≤ (rI p 13 9).toInt) (pre5 : (rI p 13 9).toInt ≤ 63) (k0 : ∀ p2 : xH, (hNt T_lk p p2) → (∀ n, n < (rI p 13 7).toInt.toNat → hLk (Xal p lo 0) (rI p 13 7).toInt.toNat n (rI p2 33 n)) → Q none p2) : hP ro n d (4, 3, 1, 0, k52) 0 (lv_args 0 [.ref 32]) [] p Q := by
  refine hp_id (ls := [(0, .ref 32)]) ?_
  refine hp_s (pc' := 1) (st' := [.int 0]) rfl rfl rfl ?_
  refine hp_s (pc' := 2) (ls' := [(1, .int 0), (0, .ref 32)]) (st' := []) rfl rfl rfl ?_
  refine lp_52a (p0 := p) (N := n) (fun m0 hm0 k p2 j1 j2 => ?_) n (Nat.le_refl _) 0 p (by decide) (by decide) (hNt.refl _ _) (fun j hj => absurd hj (by rw [i_ofz]; omega))
  refine hp_s (pc' := 22) (st' := [.int 0]) rfl rfl rfl ?_
  refine hp_s (pc' := 23) (ls' := [(1, .int 0), (0, .ref 32)]) (st' := []) rfl rfl rfl ?_
  refine hp_ls (ls' := [(1, .int 0), (2, .int 0), (0, .ref 32)]) rfl rfl ⟨rfl, rfl, trivial⟩ ?_
  refine lp_52b (p0 := p) (N := m0) pre0 pre1 pre2 pre3 pre4 pre5 (fun m1 hm1 x p3 t j3 j4 => ?_) m0 (Nat.le_refl _) 0 p2 0 (by decide) (by have h00 : (0 : Int32).toInt = 0 := (by decide); omega) (by rw [i_ofz]; exact LK_0 (j1.up (by decide)) j2)
  refine hp_rv rfl rfl ?_
  exact k0 _ j4.1 (LK_end (by omega) (by omega) j4)
def MKs (p0 p : xH) (P : Nat → Nat → Prop) (S x q : Nat) : Prop := hNt T_ml p0 p ∧ (∀ n, n < x → hLk P S n (rI p 78 n)) ∧ ∀ k, k < 32 → (bI (rI p 78 x) k = true ↔ k < q ∧ x ≠ k ∧ P x k)
theorem MK_s {p0 p p2 p3 : xH} {P : Nat → Nat → Prop} {S x q : Nat} {X Y z b : Int32} (h : MKs p0 p P S x q) (n2 : hNt T_aa p p2) (hw2 : hW p2) (hX : X.toInt = x) (hY : Y.toInt = q) (hx : x < 7) (hq : q < 7) (hb : ∀ k, k < 32 → (bI b k = true ↔ k = q ∧ x ≠ q ∧ P x q)) (e1 : z = rI p 78 X.toInt.toNat ||| b) (e3 : p3 = wV p2 78 X.toInt.toNat (.int z)) : MKs p0 p3 P S x (q + 1) := by
  have hx2 : X.toInt.toNat = x := i_to hX
  rw [hx2] at e1 e3
  obtain ⟨h1, h2, h3⟩ := h
  have r : ∀ n, rI p3 78 n = if n = x then z else rI p 78 n := fun n => by rw [e3, rI_w hw2 (by show _ < 7; omega), n2.int (r := 78) rfl]
  refine ⟨h1.trans (hNt.trans (n2.up (by decide)) (by rw [e3]; exact (hNt.refl _ _).w rfl)), fun n hn => ?_, fun k hk => ?_⟩
  · rw [r, if_neg (by omega)]; exact h2 n hn
  · rw [r, if_pos rfl, e1, bI_or, Bool.or_eq_true, h3 k hk, hb k hk]
    constructor
    · rintro (⟨a, c, e⟩ | ⟨a, c, e⟩)
      · exact ⟨by omega, c, e⟩
      · subst a; exact ⟨by omega, c, e⟩
    · rintro ⟨a, c, e⟩
      by_cases g : k = q
      · subst g; exact Or.inr ⟨rfl, c, e⟩
      · exact Or.inl ⟨by omega, c, e⟩
theorem MK_out {p0 p : xH} {P : Nat → Nat → Prop} {S x q : Nat} (hq : q = S) (h : MKs p0 p P S x q) : hNt T_ml p0 p ∧ ∀ n, n < x + 1 → hLk P S n (rI p 78 n) := by
  obtain ⟨h1, h2, h3⟩ := h
  refine ⟨h1, fun n hn => ?_⟩
  by_cases g : n = x
  · subst g; subst hq; exact h3
  · exact h2 n (by omega)
theorem MK_in {p0 p p2 : xH} {P : Nat → Nat → Prop} {S x : Nat} (h1 : hNt T_ml p0 p) (h2 : ∀ n, n < x → hLk P S n (rI p 78 n)) (hw : hW p) (hx : x < 7) (e : p2 = wV p 78 x (.int 0)) : MKs p0 p2 P S x 0 := by
  have r : ∀ n, rI p2 78 n = if n = x then 0 else rI p 78 n := fun n => by rw [e, rI_w hw (by show _ < 7; omega)]
  refine ⟨by rw [e]; exact h1.w rfl, fun n hn => by rw [r, if_neg (by omega)]; exact h2 n hn, fun k hk => ?_⟩
  rw [r, if_pos rfl, bI_0]
  exact ⟨fun a => (by cases a), fun ⟨a, _⟩ => by omega⟩
theorem lp_213b {ro : List (List Int32)} {d : Nat} {Q : Option Value → xH → Prop} {p0 : xH} {lo : Option (List yN)} {x : Int32} {N : Nat} (g0 : lMo p0 lo) (g1 : ∀ j, 0 ≤ (rI p0 67 j).toInt ∧ (rI p0 67 j).toInt < 64) (g2 : ∀ j, -1 ≤ (rI p0 71 j).toInt ∧ (rI p0 71 j).toInt < 6) (g3 : 0 ≤ (rI p0 66 6).toInt) (g4 : (rI p0 66 6).toInt ≤ 7) (hx : 0 ≤ x.toInt) (hx2 : x.toInt < (rI p0 66 6).toInt) (K : ∀ m : Nat, m ≤ N → ∀ (q : Int32) (p2 : xH), (q.toInt = (rI p0 66 6).toInt) → (MKs p0 p2 (Mal p0 lo) (rI p0 66 6).toInt.toNat x.toInt.toNat q.toInt.toNat) → hP ro m d (12, 3, 1, 0, k213) 63 [(2, .int q), (1, .int x), (0, .ref 66)] [] p2 Q) : ∀ (n : Nat) (hn : n ≤ N) (q : Int32) (p : xH), (0 ≤ q.toInt) → (q.toInt ≤ (rI p0 66 6).toInt) → (MKs p0 p (Mal p0 lo) (rI p0 66 6).toInt.toNat x.toInt.toNat q.toInt.toNat) → hP ro n d (12, 3, 1, 0, k213) 19 [(2, .int q), (1, .int x), (0, .ref 66)] [] p Q := by
  intro n
  induction n with
  | zero => intros; exact hp_0
  | succ n ih =>
    intro hn q p h1 h2 hL
    refine hp_hw (fun wp => ?_)
    have e6 : (rI p 66 6).toInt = (rI p0 66 6).toInt := by rw [hL.1.int (r := 66) (k := 6) rfl]
    have hlo : lMo p lo := lMo_nt hL.1 rfl (fun _ => rfl) g0
    have e67 : ∀ j, 0 ≤ (rI p 67 j).toInt ∧ (rI p 67 j).toInt < 64 := fun j => by rw [hL.1.int (r := 67) rfl]; exact g1 j
    have e71 : ∀ j, -1 ≤ (rI p 71 j).toInt ∧ (rI p 71 j).toInt < 6 := fun j => by rw [hL.1.int (r := 71) rfl]; exact g2 j
    have eM : Mal p lo = Mal p0 lo := Mal_sm (hL.1.sm (by decide))
    refine hp_s1 (pc' := 20) (st' := [.int q]) rfl rfl rfl ?_
    refine hp_s (pc' := 21) (st' := [.ref 66, .int q]) rfl rfl rfl ?_
    refine hp_get (k := 6) (pc' := 24) (v := (rI p 66 6)) rfl rfl rfl rfl rfl rfl ?_
    refine hp_ic (pc' := 27) (t := 63) (a := q.toInt) (b := (rI p 66 6).toInt) rfl rfl rfl rfl rfl (fun (h1 : (rI p 66 6).toInt ≤ q.toInt) => ?_) (fun (h2 : ¬ ((rI p 66 6).toInt ≤ q.toInt)) => ?_)
    ·
      exact K n (by omega) _ _ (by omega) hL
    ·
      refine hp_s (pc' := 28) (st' := [.ref 66]) rfl rfl rfl ?_
      refine hp_getr (k := 21) (w := .ref 78) (pc' := 31) rfl rfl rfl rfl rfl ?_
      refine hp_s (pc' := 32) (st' := [.int x, .ref 78]) rfl rfl rfl ?_
      refine hp_s (pc' := 33) (st' := [.int x, .ref 78, .int x, .ref 78]) rfl rfl rfl ?_
      refine hp_ld (t := 100) (v := (rI p 78 x.toInt.toNat)) rfl (.inl rfl) rfl rfl rfl ?_
      intro (g1a : 0 ≤ x.toInt) (g1b : x.toInt < 7)
      refine hp_s (pc' := 35) (st' := [.int x, .int (rI p 78 x.toInt.toNat), .int x, .ref 78]) rfl rfl rfl ?_
      refine hp_s (pc' := 36) (st' := [.int q, .int x, .int (rI p 78 x.toInt.toNat), .int x, .ref 78]) rfl rfl rfl ?_
      refine hp_ic (pc' := 39) (t := 54) (a := x.toInt) (b := q.toInt) rfl rfl rfl rfl rfl (fun (h3 : x.toInt = q.toInt) => ?_) (fun (h4 : ¬ (x.toInt = q.toInt)) => ?_)
      ·
        refine hp_s (pc' := 55) (st' := [.int 0, .int (rI p 78 x.toInt.toNat), .int x, .ref 78]) rfl rfl rfl ?_
        refine hp_z (pc' := 56) (e := (rI p 78 x.toInt.toNat) ||| 0) (st' := [.int x, .ref 78]) rfl rfl rfl ?_
        intro z1 hz1
        refine hp_st (t := 100) rfl (.inl rfl) rfl rfl ?_
        intro p1 wp1 (p1a : 0 ≤ x.toInt) (p1b : x.toInt < 7) ep1
        refine hp_inc (L := fun z_ => [(2, .int z_), (1, .int x), (0, .ref 66)]) (pc' := 60) rfl rfl rfl (fun _ => rfl) rfl ?_
        intro z2 hz2
        have ez2 := i_add hz2 (show q.toInt = q.toInt from rfl) (show (Int32.ofInt 1).toInt = 1 from by decide)
        refine hp_go (pc' := 19) rfl rfl rfl ?_
        exact ih (by omega) z2 _ (by omega) (by omega) (by rw [show z2.toInt.toNat = q.toInt.toNat + 1 by omega]; exact MK_s (X := x) (Y := q) (b := 0) hL (hNt.refl _ _) wp (by omega) (by omega) (by omega) (by omega) (fun k hk => by rw [bI_0]; exact ⟨fun a => (by cases a), fun ⟨_, a, _⟩ => absurd (show x.toInt.toNat = q.toInt.toNat by omega) a⟩) (by rw [hz1]) ep1)
      ·
        refine hp_s (pc' := 40) (st' := [.ref 66, .int (rI p 78 x.toInt.toNat), .int x, .ref 78]) rfl rfl rfl ?_
        refine hp_s (pc' := 41) (st' := [.int x, .ref 66, .int (rI p 78 x.toInt.toNat), .int x, .ref 78]) rfl rfl rfl ?_
        refine hp_s (pc' := 42) (st' := [.int q, .int x, .ref 66, .int (rI p 78 x.toInt.toNat), .int x, .ref 78]) rfl rfl rfl ?_
        refine hp_cv (r := 66) (o := 12) (kd := 1) (as := [.int x, .int q]) (rest := [.int (rI p 78 x.toInt.toNat), .int x, .ref 78]) (pc' := 45) rfl rfl rfl rfl rfl rfl rfl rfl rfl (fun d1 => ?_)
        refine s_isAlike lo (xi := x.toInt) rfl (yi := q.toInt) rfl (by first | assumption | omega) (by first | assumption | omega) (by first | assumption | omega) ?_ ?_
        ·
          intro p2 h5 h6
          rw [eM] at h6
          refine hp_hw (fun w2 => ?_)
          refine hp_id (st := [.int 1, .int (rI p 78 x.toInt.toNat), .int x, .ref 78]) ?_
          refine hp_go (pc' := 48) rfl rfl rfl ?_
          refine hp_s (pc' := 49) (st' := [.int 1, .int (rI p 78 x.toInt.toNat), .int x, .ref 78]) rfl rfl rfl ?_
          refine hp_s (pc' := 50) (st' := [.int q, .int 1, .int (rI p 78 x.toInt.toNat), .int x, .ref 78]) rfl rfl rfl ?_
          refine hp_z (pc' := 51) (e := 1 <<< (q &&& 31)) (st' := [.int (rI p 78 x.toInt.toNat), .int x, .ref 78]) rfl rfl rfl ?_
          intro z3 hz3
          refine hp_go (pc' := 55) rfl rfl rfl ?_
          refine hp_z (pc' := 56) (e := (rI p 78 x.toInt.toNat) ||| z3) (st' := [.int x, .ref 78]) rfl rfl rfl ?_
          intro z4 hz4
          refine hp_st (t := 100) rfl (.inl rfl) rfl rfl ?_
          intro p3 wp3 (p3a : 0 ≤ x.toInt) (p3b : x.toInt < 7) ep3
          refine hp_inc (L := fun z_ => [(2, .int z_), (1, .int x), (0, .ref 66)]) (pc' := 60) rfl rfl rfl (fun _ => rfl) rfl ?_
          intro z5 hz5
          have ez5 := i_add hz5 (show q.toInt = q.toInt from rfl) (show (Int32.ofInt 1).toInt = 1 from by decide)
          refine hp_go (pc' := 19) rfl rfl rfl ?_
          exact ih (by omega) z5 _ (by omega) (by omega) (by rw [show z5.toInt.toNat = q.toInt.toNat + 1 by omega]; exact MK_s (X := x) (Y := q) (b := (1 : Int32) <<< (q &&& 31)) hL h5 w2 (by omega) (by omega) (by omega) (by omega) (fun k hk => by rw [bI_p (j := q.toInt.toNat) (by omega) (by omega) hk, decide_eq_true_iff]; exact ⟨fun g => ⟨g, by omega, h6⟩, fun g => g.1⟩) (by rw [hz4]; rw [hz3]) ep3)
        ·
          intro p4 h7 h8
          rw [eM] at h8
          refine hp_hw (fun w2 => ?_)
          refine hp_id (st := [.int 0, .int (rI p 78 x.toInt.toNat), .int x, .ref 78]) ?_
          refine hp_go (pc' := 54) rfl rfl rfl ?_
          refine hp_s (pc' := 55) (st' := [.int 0, .int (rI p 78 x.toInt.toNat), .int x, .ref 78]) rfl rfl rfl ?_
          refine hp_z (pc' := 56) (e := (rI p 78 x.toInt.toNat) ||| 0) (st' := [.int x, .ref 78]) rfl rfl rfl ?_
          intro z6 hz6
          refine hp_st (t := 100) rfl (.inl rfl) rfl rfl ?_
          intro p5 wp5 (p5a : 0 ≤ x.toInt) (p5b : x.toInt < 7) ep5
          refine hp_inc (L := fun z_ => [(2, .int z_), (1, .int x), (0, .ref 66)]) (pc' := 60) rfl rfl rfl (fun _ => rfl) rfl ?_
          intro z7 hz7
          have ez7 := i_add hz7 (show q.toInt = q.toInt from rfl) (show (Int32.ofInt 1).toInt = 1 from by decide)
          refine hp_go (pc' := 19) rfl rfl rfl ?_
          exact ih (by omega) z7 _ (by omega) (by omega) (by rw [show z7.toInt.toNat = q.toInt.toNat + 1 by omega]; exact MK_s (X := x) (Y := q) (b := 0) hL h7 w2 (by omega) (by omega) (by omega) (by omega) (fun k hk => by rw [bI_0]; exact ⟨fun g => (by cases g), fun g => absurd g.2.2 h8⟩) (by rw [hz6]) ep5)
theorem lp_213a {ro : List (List Int32)} {d : Nat} {Q : Option Value → xH → Prop} {p0 : xH} {lo : Option (List yN)} {N : Nat} (g0 : lMo p0 lo) (g1 : ∀ j, 0 ≤ (rI p0 67 j).toInt ∧ (rI p0 67 j).toInt < 64) (g2 : ∀ j, -1 ≤ (rI p0 71 j).toInt ∧ (rI p0 71 j).toInt < 6) (g3 : 0 ≤ (rI p0 66 6).toInt) (g4 : (rI p0 66 6).toInt ≤ 7) (K : ∀ m : Nat, m ≤ N → ∀ (x : Int32) (p2 : xH) (t : Int32), (x.toInt = (rI p0 66 6).toInt) → (hNt T_ml p0 p2) → (∀ j, j < x.toInt.toNat → hLk (Mal p0 lo) (rI p0 66 6).toInt.toNat j (rI p2 78 j)) → hP ro m d (12, 3, 1, 0, k213) 69 [(1, .int x), (2, .int t), (0, .ref 66)] [] p2 Q) : ∀ (n : Nat) (hn : n ≤ N) (x : Int32) (p : xH) (t : Int32), (0 ≤ x.toInt) → (x.toInt ≤ (rI p0 66 6).toInt) → (hNt T_ml p0 p) → (∀ j, j < x.toInt.toNat → hLk (Mal p0 lo) (rI p0 66 6).toInt.toNat j (rI p 78 j)) → hP ro n d (12, 3, 1, 0, k213) 2 [(1, .int x), (2, .int t), (0, .ref 66)] [] p Q := by
  intro n
  induction n with
  | zero => intros; exact hp_0
  | succ n ih =>
    intro hn x p t h1 h2 hN hR
    refine hp_hw (fun wp => ?_)
    have e6 : (rI p 66 6).toInt = (rI p0 66 6).toInt := by rw [hN.int (r := 66) (k := 6) rfl]
    have hlo : lMo p lo := lMo_nt hN rfl (fun _ => rfl) g0
    have e67 : ∀ j, 0 ≤ (rI p 67 j).toInt ∧ (rI p 67 j).toInt < 64 := fun j => by rw [hN.int (r := 67) rfl]; exact g1 j
    have e71 : ∀ j, -1 ≤ (rI p 71 j).toInt ∧ (rI p 71 j).toInt < 6 := fun j => by rw [hN.int (r := 71) rfl]; exact g2 j
    have eM : Mal p lo = Mal p0 lo := Mal_sm (hN.sm (by decide))
    refine hp_s1 (pc' := 3) (st' := [.int x]) rfl rfl rfl ?_
    refine hp_s (pc' := 4) (st' := [.ref 66, .int x]) rfl rfl rfl ?_
    refine hp_get (k := 6) (pc' := 7) (v := (rI p 66 6)) rfl rfl rfl rfl rfl rfl ?_
    refine hp_ic (pc' := 10) (t := 69) (a := x.toInt) (b := (rI p 66 6).toInt) rfl rfl rfl rfl rfl (fun (h1 : (rI p 66 6).toInt ≤ x.toInt) => ?_) (fun (h2 : ¬ ((rI p 66 6).toInt ≤ x.toInt)) => ?_)
    ·
      exact K n (by omega) _ _ _ (by omega) hN hR
    ·
      refine hp_s (pc' := 11) (st' := [.ref 66]) rfl rfl rfl ?_
      refine hp_getr (k := 21) (w := .ref 78) (pc' := 14) rfl rfl rfl rfl rfl ?_
      refine hp_s (pc' := 15) (st' := [.int x, .ref 78]) rfl rfl rfl ?_
      refine hp_s (pc' := 16) (st' := [.int 0, .int x, .ref 78]) rfl rfl rfl ?_
      refine hp_st (t := 100) rfl (.inl rfl) rfl rfl ?_
      intro p1 wp1 (p1a : 0 ≤ x.toInt) (p1b : x.toInt < 7) ep1
      refine hp_s (pc' := 18) (st' := [.int 0]) rfl rfl rfl ?_
      refine hp_s (pc' := 19) (ls' := [(2, .int 0), (1, .int x), (0, .ref 66)]) (st' := []) rfl rfl rfl ?_
      refine lp_213b (N := n) (x := x) g0 g1 g2 g3 g4 h1 (by omega) (fun m0 hm0 q p2 j1 j2 => ?_) n (Nat.le_refl _) 0 p1 (by decide) (by have h00 : (0 : Int32).toInt = 0 := (by decide); omega) (by rw [i_ofz]; exact MK_in hN hR wp (by omega) ep1)
      refine hp_inc (L := fun z_ => [(1, .int z_), (2, .int q), (0, .ref 66)]) (pc' := 66) rfl rfl rfl (fun _ => rfl) rfl ?_
      intro z1 hz1
      have ez1 := i_add hz1 (show x.toInt = x.toInt from rfl) (show (Int32.ofInt 1).toInt = 1 from by decide)
      refine hp_go (pc' := 2) rfl rfl rfl ?_
      obtain ⟨n3, r3⟩ := MK_out (by omega) j2
      exact hp_le hm0 (ih (by omega) z1 _ q (by omega) (by omega) n3 (by rw [show z1.toInt.toNat = x.toInt.toNat + 1 by omega]; exact r3))
theorem s_asksLikes {ro : List (List Int32)} {n d : Nat} {p : xH} {Q : Option Value → xH → Prop} (lo : Option (List yN))  (pre0 : lMo p lo) (pre1 : ∀ j, 0 ≤ (rI p 67 j).toInt ∧ (rI p 67 j).toInt < 64) (pre2 : ∀ j, -1 ≤ (rI p 71 j).toInt ∧ (rI p 71 j).toInt < 6) (pre3 : 0 ≤ (rI p 66 6).toInt) (pre4 : (rI p 66 6).toInt ≤ 7) (k0 : ∀ p2 : xH, (hNt T_ml p p2) → (∀ n, n < (rI p 66 6).toInt.toNat → hLk (Mal p lo) (rI p 66 6).toInt.toNat n (rI p2 78 n)) → Q none p2) : hP ro n d (12, 3, 1, 0, k213) 0 (lv_args 0 [.ref 66]) [] p Q := by
  refine hp_id (ls := [(0, .ref 66)]) ?_
  refine hp_s (pc' := 1) (st' := [.int 0]) rfl rfl rfl ?_
  refine hp_s (pc' := 2) (ls' := [(1, .int 0), (0, .ref 66)]) (st' := []) rfl rfl rfl ?_
  refine hp_ls (ls' := [(1, .int 0), (2, .int 0), (0, .ref 66)]) rfl rfl ⟨rfl, rfl, trivial⟩ ?_
  refine lp_213a (p0 := p) (N := n) pre0 pre1 pre2 pre3 pre4 (fun m0 hm0 x p2 t j1 j2 j3 => ?_) n (Nat.le_refl _) 0 p 0 (by decide) (by have h00 : (0 : Int32).toInt = 0 := (by decide); omega) (hNt.refl _ _) (fun j hj => absurd hj (by rw [i_ofz]; omega))
  refine hp_rv rfl rfl ?_
  exact k0 _ j2 (fun j hj => j3 j (by omega))
