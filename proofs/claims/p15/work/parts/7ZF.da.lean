/-! contracts of methods, walked -/
abbrev T_dx : List (Nat × Nat) := [(35, 9999), (36, 9999), (37, 9999), (38, 9999), (39, 9999)]
abbrev T_ly : List (Nat × Nat) := [(20, 4), (23, 9999), (24, 9999), (33, 9999), (35, 9999), (36, 9999), (37, 9999), (38, 9999), (39, 9999)]
/-- one is at home all day -/
def hHm (p p2 : xH) (x : Nat) : Prop := hNt T_dx p p2 ∧ (∀ j, rI p2 35 j = if 5 * x ≤ j ∧ j < 5 * x + 5 then 0 else rI p 35 j) ∧ (∀ j, rI p2 36 j = if j = x then -1 else rI p 36 j) ∧ (∀ j, rI p2 37 j = if j = x then -1 else rI p 37 j) ∧ (∀ j, rI p2 38 j = if j = x then 0 else rI p 38 j) ∧ (∀ j, rI p2 39 j = if j = x then 0 else rI p 39 j)
/-- the others' rows stay -/
def hOt (p p2 : xH) (x : Nat) : Prop := ∀ j, j ≠ x → (∀ s, s < 5 → rI p2 35 (5 * j + s) = rI p 35 (5 * j + s)) ∧ rI p2 36 j = rI p 36 j ∧ rI p2 37 j = rI p 37 j ∧ rI p2 38 j = rI p 38 j ∧ rI p2 39 j = rI p 39 j
theorem hOt_0 {p : xH} {x : Nat} : hOt p p x := fun _ _ => ⟨fun _ _ => rfl, rfl, rfl, rfl, rfl⟩
theorem hOt_tr {p p1 p2 : xH} {x : Nat} (h : hOt p p1 x) (g : hOt p1 p2 x) : hOt p p2 x := fun j hj => by
  obtain ⟨a1, a2, a3, a4, a5⟩ := h j hj
  obtain ⟨b1, b2, b3, b4, b5⟩ := g j hj
  exact ⟨fun s hs => (b1 s hs).trans (a1 s hs), b2.trans a2, b3.trans a3, b4.trans a4, b5.trans a5⟩
theorem hHm_ot {p p2 : xH} {x : Nat} (h : hHm p p2 x) : hOt p p2 x := fun j hj => by
  obtain ⟨h0, h1, h2, h3, h4, h5⟩ := h
  exact ⟨fun s hs => by rw [h1, if_neg (by omega)], by rw [h2, if_neg hj], by rw [h3, if_neg hj], by rw [h4, if_neg hj], by rw [h5, if_neg hj]⟩
/-- a day of one, in the rows -/
def hDb (p : xH) (x : Nat) (w : Int → Int) : Prop := ∀ s : Nat, s < 5 → ∀ m : Nat, m < 30 → (bI (rI p 35 (5 * x + s)) m = true ↔ w m = s)
def dBa (r : dS) : Int := match r with
  | none => 1
  | some _ => 0
def hDr (p : xH) (x : Nat) (r : dS) (T : Int32) : Prop := hDb p x (dw r) ∧ (rI p 36 x).toInt = dFi r ∧ (rI p 37 x).toInt = dLa r ∧ rI p 38 x = dWt T r ∧ (rI p 39 x).toInt = dBa r
theorem hDr_ot {p p2 : xH} {x j : Nat} {r : dS} {T : Int32} (h : hOt p p2 x) (hj : j ≠ x) (g : hDr p j r T) : hDr p2 j r T := by
  obtain ⟨a1, a2, a3, a4, a5⟩ := h j hj
  obtain ⟨b1, b2, b3, b4, b5⟩ := g
  exact ⟨fun s hs m hm => by rw [a1 s hs]; exact b1 s hs m hm, by rw [a2]; exact b2, by rw [a3]; exact b3, by rw [a4]; exact b4, by rw [a5]; exact b5⟩
theorem hDr_e {p p2 : xH} {j : Nat} {r : dS} {T : Int32} (e : ∀ k, rI p2 35 k = rI p 35 k) (e6 : rI p2 36 j = rI p 36 j) (e7 : rI p2 37 j = rI p 37 j) (e8 : rI p2 38 j = rI p 38 j) (e9 : rI p2 39 j = rI p 39 j) (g : hDr p j r T) : hDr p2 j r T := by
  obtain ⟨b1, b2, b3, b4, b5⟩ := g
  exact ⟨fun s hs m hm => by rw [e]; exact b1 s hs m hm, by rw [e6]; exact b2, by rw [e7]; exact b3, by rw [e8]; exact b4, by rw [e9]; exact b5⟩
/-- barred: at home, and that is kept -/
theorem hDr_none {p p2 p3 : xH} {x : Nat} {T : Int32} (h : hHm p p2 x) (hw : hW p2) (hx : x < 7) (e : p3 = wV p2 39 x (.int 1)) : hDr p3 x none T ∧ hOt p2 p3 x := by
  obtain ⟨h0, h1, h2, h3, h4, h5⟩ := h
  have o : ∀ r j, r ≠ 39 → rI p3 r j = rI p2 r j := fun r j hr => by rw [e, rI_o hr]
  refine ⟨⟨fun s hs m hm => ?_, ?_, ?_, ?_, ?_⟩, fun j hj => ⟨fun s _ => o 35 _ (by decide), o 36 _ (by decide), o 37 _ (by decide), o 38 _ (by decide), by rw [e, rI_w hw hx, if_neg hj]⟩⟩
  · rw [o 35 _ (by decide), h1, if_pos (by omega), bI_0]
    exact ⟨fun a => (by cases a), fun a => (by have a : (-1 : Int) = s := a; omega)⟩
  · rw [o 36 _ (by decide), h2, if_pos rfl]; decide
  · rw [o 37 _ (by decide), h3, if_pos rfl]; decide
  · rw [o 38 _ (by decide), h4, if_pos rfl]; rfl
  · rw [e, rI_w hw hx, if_pos rfl]; decide
theorem lp_27 {ro : List (List Int32)} {d : Nat} {Q : Option Value → xH → Prop} {p0 : xH} {x : Int32} (x0 : 0 ≤ x.toInt) (x7 : x.toInt < 7) (K : ∀ p2 : xH, hHm p0 p2 x.toInt.toNat → Q none p2) : ∀ (n : Nat) (k : Int32) (p : xH), (0 ≤ k.toInt) → (k.toInt ≤ 5) → (hNt [(35, 9999)] p0 p) → (∀ j, rI p 35 j = if 5 * x.toInt.toNat ≤ j ∧ j < 5 * x.toInt.toNat + k.toInt.toNat then 0 else rI p0 35 j) → hP ro n d (2, 3, 1, 0, k27) 2 [(2, .int k), (0, .ref 34), (1, .int x)] [] p Q := by
  intro n
  induction n with
  | zero => intros; exact hp_0
  | succ n ih =>
    intro k p hk1 hk2 hN hO
    refine hp_hw (fun wp => ?_)
    refine hp_s1 (pc' := 3) (st' := [.int k]) rfl rfl rfl ?_
    refine hp_s (pc' := 4) (st' := [.int 5, .int k]) rfl rfl rfl ?_
    refine hp_ic (pc' := 7) (t := 24) (a := k.toInt) (b := 5) rfl rfl rfl rfl (by decide) (fun (h1 : 5 ≤ k.toInt) => ?_) (fun (h2 : ¬ (5 ≤ k.toInt)) => ?_)
    ·
      refine hp_s (pc' := 25) (st' := [.ref 34]) rfl rfl rfl ?_
      refine hp_getr (k := 3) (w := .ref 36) (pc' := 28) rfl rfl rfl rfl rfl ?_
      refine hp_s (pc' := 29) (st' := [.int x, .ref 36]) rfl rfl rfl ?_
      refine hp_s (pc' := 30) (st' := [.int (-1), .int x, .ref 36]) rfl rfl rfl ?_
      refine hp_st (t := 100) rfl (.inl rfl) rfl rfl ?_
      intro p1 wp1 (p1a : 0 ≤ x.toInt) (p1b : x.toInt < 7) ep1
      refine hp_s (pc' := 32) (st' := [.ref 34]) rfl rfl rfl ?_
      refine hp_getr (k := 4) (w := .ref 37) (pc' := 35) rfl rfl rfl rfl rfl ?_
      refine hp_s (pc' := 36) (st' := [.int x, .ref 37]) rfl rfl rfl ?_
      refine hp_s (pc' := 37) (st' := [.int (-1), .int x, .ref 37]) rfl rfl rfl ?_
      refine hp_st (t := 100) rfl (.inl rfl) rfl rfl ?_
      intro p2 wp2 (p2a : 0 ≤ x.toInt) (p2b : x.toInt < 7) ep2
      refine hp_s (pc' := 39) (st' := [.ref 34]) rfl rfl rfl ?_
      refine hp_getr (k := 5) (w := .ref 38) (pc' := 42) rfl rfl rfl rfl rfl ?_
      refine hp_s (pc' := 43) (st' := [.int x, .ref 38]) rfl rfl rfl ?_
      refine hp_s (pc' := 44) (st' := [.int 0, .int x, .ref 38]) rfl rfl rfl ?_
      refine hp_st (t := 100) rfl (.inl rfl) rfl rfl ?_
      intro p3 wp3 (p3a : 0 ≤ x.toInt) (p3b : x.toInt < 7) ep3
      refine hp_s (pc' := 46) (st' := [.ref 34]) rfl rfl rfl ?_
      refine hp_getr (k := 6) (w := .ref 39) (pc' := 49) rfl rfl rfl rfl rfl ?_
      refine hp_s (pc' := 50) (st' := [.int x, .ref 39]) rfl rfl rfl ?_
      refine hp_s (pc' := 51) (st' := [.int 0, .int x, .ref 39]) rfl rfl rfl ?_
      refine hp_st (t := 101) rfl (.inr rfl) rfl rfl ?_
      intro p4 wp4 (p4a : 0 ≤ x.toInt) (p4b : x.toInt < 7) ep4
      refine hp_rv rfl rfl ?_
      refine K p4 ⟨(by rw [ep4]; exact (hNt.w (by rw [ep3]; exact (hNt.w (by rw [ep2]; exact (hNt.w (by rw [ep1]; exact (hNt.w (hN.up (by decide)) rfl)) rfl)) rfl)) rfl)), fun j => ?_, fun j => ?_, fun j => ?_, fun j => ?_, fun j => ?_⟩
      · rw [ep4, rI_o (by decide), ep3, rI_o (by decide), ep2, rI_o (by decide), ep1, rI_o (by decide), hO j, show k.toInt.toNat = 5 by omega]
      · rw [ep4, rI_o (by decide), ep3, rI_o (by decide), ep2, rI_o (by decide), ep1, rI_w wp1 (by show _ < 7; omega), hN.int (r := 36) rfl]
      · rw [ep4, rI_o (by decide), ep3, rI_o (by decide), ep2, rI_w wp2 (by show _ < 7; omega), ep1, rI_o (by decide), hN.int (r := 37) rfl]
      · rw [ep4, rI_o (by decide), ep3, rI_w wp3 (by show _ < 7; omega), ep2, rI_o (by decide), ep1, rI_o (by decide), hN.int (r := 38) rfl]
      · rw [ep4, rI_w wp4 (by show _ < 7; omega), ep3, rI_o (by decide), ep2, rI_o (by decide), ep1, rI_o (by decide), hN.int (r := 39) rfl]
    ·
      refine hp_s (pc' := 8) (st' := [.ref 34]) rfl rfl rfl ?_
      refine hp_getr (k := 2) (w := .ref 35) (pc' := 11) rfl rfl rfl rfl rfl ?_
      refine hp_s (pc' := 12) (st' := [.int x, .ref 35]) rfl rfl rfl ?_
      refine hp_s (pc' := 13) (st' := [.int 5, .int x, .ref 35]) rfl rfl rfl ?_
      refine hp_z (pc' := 14) (e := x * 5) (st' := [.ref 35]) rfl rfl rfl ?_
      intro z1 hz1
      have ez1 := i_mul hz1 (show x.toInt = x.toInt from rfl) (show (5 : Int32).toInt = 5 from by decide)
      refine hp_s (pc' := 15) (st' := [.int k, .int z1, .ref 35]) rfl rfl rfl ?_
      refine hp_z (pc' := 16) (e := z1 + k) (st' := [.ref 35]) rfl rfl rfl ?_
      intro z2 hz2
      have ez2 := i_add hz2 (show z1.toInt = z1.toInt from rfl) (show k.toInt = k.toInt from rfl)
      refine hp_s (pc' := 17) (st' := [.int 0, .int z2, .ref 35]) rfl rfl rfl ?_
      refine hp_st (t := 100) rfl (.inl rfl) rfl rfl ?_
      intro p5 wp5 (p5a : 0 ≤ z2.toInt) (p5b : z2.toInt < 35) ep5
      refine hp_inc (L := fun z_ => [(2, .int z_), (0, .ref 34), (1, .int x)]) (pc' := 21) rfl rfl rfl (fun _ => rfl) rfl ?_
      intro z3 hz3
      have ez3 := i_add hz3 (show k.toInt = k.toInt from rfl) (show (Int32.ofInt 1).toInt = 1 from by decide)
      refine hp_go (pc' := 2) rfl rfl rfl ?_
      refine ih z3 p5 (by omega) (by omega) (by rw [ep5]; exact hN.w rfl) (fun j => ?_)
      rw [ep5, rI_w wp (by show _ < 35; omega)]
      by_cases g : j = 5 * x.toInt.toNat + k.toInt.toNat
      · rw [if_pos (by omega), if_pos (by omega)]
      · rw [if_neg (by omega), hO j]
        by_cases g2 : 5 * x.toInt.toNat ≤ j ∧ j < 5 * x.toInt.toNat + k.toInt.toNat
        · rw [if_pos g2, if_pos (by omega)]
        · rw [if_neg g2, if_neg (by omega)]
theorem s_stayAtHome {ro : List (List Int32)} {n d : Nat} {p : xH} {Q : Option Value → xH → Prop} {x : Int32} {xi : Int} (hx : x.toInt = xi) (pre0 : 0 ≤ xi) (pre1 : xi < 7) (k0 : ∀ p2 : xH, (hNt T_dx p p2) → (hHm p p2 xi.toNat) → Q none p2) : hP ro n d (2, 3, 1, 0, k27) 0 (lv_args 0 [.ref 34, .int x]) [] p Q := by
  subst hx
  refine hp_id (ls := [(0, .ref 34), (1, .int x)]) ?_
  refine hp_s (pc' := 1) (st' := [.int 0]) rfl rfl rfl ?_
  refine hp_s (pc' := 2) (ls' := [(2, .int 0), (0, .ref 34), (1, .int x)]) (st' := []) rfl rfl rfl ?_
  exact lp_27 (p0 := p) (x := x) pre0 pre1 (fun p2 h => k0 p2 h.1 h) n 0 p (by decide) (by decide) (hNt.refl _ _) (fun j => by rw [if_neg (by rw [i_ofz]; omega)])
theorem lp_28 {ro : List (List Int32)} {d : Nat} {Q : Option Value → xH → Prop} {a s : Int32} {p : xH} (g0 : 0 ≤ (rI p 13 7).toInt) (g1 : (rI p 13 7).toInt ≤ 7) (s0 : 0 ≤ s.toInt) (s5 : s.toInt < 5) (K : ∀ z : Int32, (∀ m, m < 32 → (bI z m = true ↔ ∃ j, j < (rI p 13 7).toInt.toNat ∧ bI a j = true ∧ bI (rI p 35 (5 * j + s.toInt.toNat)) m = true)) → Q (some (.int z)) p) : ∀ (n : Nat) (k : Int32) (b : Int32), (0 ≤ k.toInt) → (k.toInt ≤ (rI p 13 7).toInt) → (∀ m, m < 32 → (bI b m = true ↔ ∃ j, j < k.toInt.toNat ∧ bI a j = true ∧ bI (rI p 35 (5 * j + s.toInt.toNat)) m = true)) → hP ro n d (2, 5, 1, 1, k28) 5 [(4, .int k), (3, .int b), (0, .ref 34), (1, .int a), (2, .int s)] [] p Q := by
  intro n
  induction n with
  | zero => intros; exact hp_0
  | succ n ih =>
    intro k b hk1 hk2 hb
    refine hp_s1 (pc' := 7) (st' := [.int k]) rfl rfl rfl ?_
    refine hp_s (pc' := 8) (st' := [.ref 34, .int k]) rfl rfl rfl ?_
    refine hp_getr (k := 0) (w := .ref 13) (pc' := 11) rfl rfl rfl rfl rfl ?_
    refine hp_get (k := 7) (pc' := 14) (v := (rI p 13 7)) rfl rfl rfl rfl rfl rfl ?_
    refine hp_ic (pc' := 17) (t := 47) (a := k.toInt) (b := (rI p 13 7).toInt) rfl rfl rfl rfl rfl (fun (h1 : (rI p 13 7).toInt ≤ k.toInt) => ?_) (fun (h2 : ¬ ((rI p 13 7).toInt ≤ k.toInt)) => ?_)
    ·
      refine hp_s (pc' := 48) (st' := [.int b]) rfl rfl rfl ?_
      refine hp_ri rfl rfl ?_
      exact K _ (by rw [show (rI p 13 7).toInt.toNat = k.toInt.toNat by omega]; exact hb)
    ·
      refine hp_s (pc' := 18) (st' := [.int a]) rfl rfl rfl ?_
      refine hp_s (pc' := 20) (st' := [.int k, .int a]) rfl rfl rfl ?_
      refine hp_z (pc' := 21) (e := a >>> (k &&& 31)) (st' := []) rfl rfl rfl ?_
      intro z1 hz1
      refine hp_s (pc' := 22) (st' := [.int 1, .int z1]) rfl rfl rfl ?_
      refine hp_z (pc' := 23) (e := z1 &&& 1) (st' := []) rfl rfl rfl ?_
      intro z2 hz2
      have hbit : z2.toInt = if bI a k.toInt.toNat then 1 else 0 := by rw [hz2, hz1]; exact bI_at _ (by omega) (by omega)
      refine hp_s (pc' := 24) (st' := [.int 1, .int z2]) rfl rfl rfl ?_
      refine hp_ic (pc' := 27) (t := 41) (a := z2.toInt) (b := 1) rfl rfl rfl rfl (by decide) (fun (h3 : z2.toInt ≠ 1) => ?_) (fun (h4 : ¬ (z2.toInt ≠ 1)) => ?_)
      ·
        refine hp_inc (L := fun z_ => [(4, .int z_), (3, .int b), (0, .ref 34), (1, .int a), (2, .int s)]) (pc' := 44) rfl rfl rfl (fun _ => rfl) rfl ?_
        intro z3 hz3
        have ez3 := i_add hz3 (show k.toInt = k.toInt from rfl) (show (Int32.ofInt 1).toInt = 1 from by decide)
        refine hp_go (pc' := 5) rfl rfl rfl ?_
        refine ih z3 b (by omega) (by omega) (fun m hm => ?_)
        rw [show z3.toInt.toNat = k.toInt.toNat + 1 by omega]
        rw [hb m hm]
        refine ⟨fun ⟨j, a1, a2, a3⟩ => ⟨j, by omega, a2, a3⟩, fun ⟨j, a1, a2, a3⟩ => ⟨j, ?_, a2, a3⟩⟩
        by_cases g : j = k.toInt.toNat
        · rw [g] at a2; rw [a2, if_pos rfl] at hbit; omega
        · omega
      ·
        refine hp_s (pc' := 28) (st' := [.int b]) rfl rfl rfl ?_
        refine hp_s (pc' := 29) (st' := [.ref 34, .int b]) rfl rfl rfl ?_
        refine hp_getr (k := 2) (w := .ref 35) (pc' := 32) rfl rfl rfl rfl rfl ?_
        refine hp_s (pc' := 34) (st' := [.int k, .ref 35, .int b]) rfl rfl rfl ?_
        refine hp_s (pc' := 35) (st' := [.int 5, .int k, .ref 35, .int b]) rfl rfl rfl ?_
        refine hp_z (pc' := 36) (e := k * 5) (st' := [.ref 35, .int b]) rfl rfl rfl ?_
        intro z4 hz4
        have ez4 := i_mul hz4 (show k.toInt = k.toInt from rfl) (show (5 : Int32).toInt = 5 from by decide)
        refine hp_s (pc' := 37) (st' := [.int s, .int z4, .ref 35, .int b]) rfl rfl rfl ?_
        refine hp_z (pc' := 38) (e := z4 + s) (st' := [.ref 35, .int b]) rfl rfl rfl ?_
        intro z5 hz5
        have ez5 := i_add hz5 (show z4.toInt = z4.toInt from rfl) (show s.toInt = s.toInt from rfl)
        refine hp_ld (t := 100) (v := (rI p 35 z5.toInt.toNat)) rfl (.inl rfl) rfl rfl rfl ?_
        intro (g1a : 0 ≤ z5.toInt) (g1b : z5.toInt < 35)
        have q9 : (rI p 35 z5.toInt.toNat) = rI p 35 (5 * k.toInt.toNat + s.toInt.toNat) := by congr 1; omega
        refine hp_z (pc' := 40) (e := b ||| (rI p 35 z5.toInt.toNat)) (st' := []) rfl rfl rfl ?_
        intro z6 hz6
        refine hp_s (pc' := 41) (ls' := [(3, .int z6), (4, .int k), (0, .ref 34), (1, .int a), (2, .int s)]) (st' := []) rfl rfl rfl ?_
        refine hp_inc (L := fun z_ => [(4, .int z_), (3, .int z6), (0, .ref 34), (1, .int a), (2, .int s)]) (pc' := 44) rfl rfl rfl (fun _ => rfl) rfl ?_
        intro z7 hz7
        have ez7 := i_add hz7 (show k.toInt = k.toInt from rfl) (show (Int32.ofInt 1).toInt = 1 from by decide)
        refine hp_go (pc' := 5) rfl rfl rfl ?_
        refine ih z7 z6 (by omega) (by omega) (fun m hm => ?_)
        rw [show z7.toInt.toNat = k.toInt.toNat + 1 by omega]
        rw [hz6, q9, bI_or, Bool.or_eq_true, hb m hm]
        refine ⟨fun g => g.elim (fun ⟨j, a1, a2, a3⟩ => ⟨j, by omega, a2, a3⟩) (fun a3 => ⟨_, by omega, b_if (hbit.symm.trans (by omega)), a3⟩), fun ⟨j, a1, a2, a3⟩ => ?_⟩
        by_cases g : j = k.toInt.toNat
        · rw [g] at a3; exact Or.inr a3
        · exact Or.inl ⟨j, by omega, a2, a3⟩
theorem s_shutMinutes {ro : List (List Int32)} {n d : Nat} {p : xH} {Q : Option Value → xH → Prop} {a : Int32} {ai : Int} {s : Int32} {si : Int} (ha : a.toInt = ai) (hs : s.toInt = si) (pre0 : 0 ≤ (rI p 13 7).toInt) (pre1 : (rI p 13 7).toInt ≤ 7) (pre2 : 0 ≤ si) (pre3 : si < 5) (k0 : ∀ z : Int32, (∀ m, m < 32 → (bI z m = true ↔ ∃ j, j < (rI p 13 7).toInt.toNat ∧ bI a j = true ∧ bI (rI p 35 (5 * j + si.toNat)) m = true)) → Q (some (.int z)) p) : hP ro n d (2, 5, 1, 1, k28) 0 (lv_args 0 [.ref 34, .int a, .int s]) [] p Q := by
  subst ha
  subst hs
  refine hp_id (ls := [(0, .ref 34), (1, .int a), (2, .int s)]) ?_
  refine hp_s (pc' := 1) (st' := [.int 0]) rfl rfl rfl ?_
  refine hp_s (pc' := 2) (ls' := [(3, .int 0), (0, .ref 34), (1, .int a), (2, .int s)]) (st' := []) rfl rfl rfl ?_
  refine hp_s (pc' := 3) (st' := [.int 0]) rfl rfl rfl ?_
  refine hp_s (pc' := 5) (ls' := [(4, .int 0), (3, .int 0), (0, .ref 34), (1, .int a), (2, .int s)]) (st' := []) rfl rfl rfl ?_
  exact lp_28 (a := a) (s := s) pre0 pre1 pre2 pre3 k0 n 0 0 (by decide) (by have h00 : (0 : Int32).toInt = 0 := (by decide); omega) (fun m hm => by rw [bI_0, i_ofz]; exact ⟨fun g => (by cases g), fun ⟨j, g, _⟩ => absurd g (Nat.not_lt_zero _)⟩)
def dF (z : Int32) (t b : Int) : Prop := ∀ j : Int, 0 ≤ j → j < t → ¬ bI z (b + j).toNat = true
theorem ff_t {z B L m : Int32} {b t : Nat} (hB : B.toInt = b) (hL : L.toInt = t) (hm : m = ((1 : Int32) <<< (L &&& 31)) - 1) (ht : t ≤ 6) (hb : b + t ≤ 30) : (z >>> (B &&& 31)) &&& m = 0 ↔ dF z t b := by
  have e : ∀ k, k < 32 → (bI m k = true ↔ k < t) := fun k hk => by
    have := evb_k (q := L) (by omega) (by omega) hm hk
    rw [show L.toInt.toNat = t by omega] at this
    exact this
  rw [bI_zero]
  constructor
  · intro h j j1 j2 g
    have q := h j.toNat (by omega)
    rw [bI_and, bI_sr z hB (by omega) (by omega), (e j.toNat (by omega)).mpr (by omega), Bool.and_true, show b + j.toNat = ((b : Int) + j).toNat by omega, g] at q
    cases q
  · intro h k hk
    rw [bI_and]
    cases hm2 : bI m k with
    | false => rw [Bool.and_false]
    | true =>
      have hkt := (e k hk).mp hm2
      rw [bI_sr z hB (by omega) (by omega), Bool.and_true]
      have q := h k (by omega) (by omega)
      rw [show ((b : Int) + k).toNat = b + k by omega] at q
      exact Bool.eq_false_iff.mpr q
theorem lp_29 {ro : List (List Int32)} {d : Nat} {Q : Option Value → xH → Prop} {z f t m : Int32} {p : xH} (hm : m = ((1 : Int32) <<< (t &&& 31)) - 1) (f0 : 0 ≤ f.toInt) (f30 : f.toInt ≤ 30) (t1 : 1 ≤ t.toInt) (t6 : t.toInt ≤ 6) (K : ∀ r : Int32, r.toInt = gW (dF z t.toInt) (31 - t.toInt) f.toInt → Q (some (.int r)) p) : ∀ (n : Nat) (b : Int32), (0 ≤ b.toInt) → (b.toInt ≤ 30) → (gW (dF z t.toInt) (31 - t.toInt) b.toInt = gW (dF z t.toInt) (31 - t.toInt) f.toInt) → hP ro n d (2, 5, 0, 1, k29) 9 [(4, .int b), (3, .int m), (0, .int z), (1, .int f), (2, .int t)] [] p Q := by
  intro n
  induction n with
  | zero => intros; exact hp_0
  | succ n ih =>
    intro b hb1 hb2 hg
    refine hp_s1 (pc' := 11) (st' := [.int b]) rfl rfl rfl ?_
    refine hp_s (pc' := 12) (st' := [.int t, .int b]) rfl rfl rfl ?_
    refine hp_z (pc' := 13) (e := b + t) (st' := []) rfl rfl rfl ?_
    intro z1 hz1
    have ez1 := i_add hz1 (show b.toInt = b.toInt from rfl) (show t.toInt = t.toInt from rfl)
    refine hp_s (pc' := 15) (st' := [.int 30, .int z1]) rfl rfl rfl ?_
    refine hp_ic (pc' := 18) (t := 36) (a := z1.toInt) (b := 30) rfl rfl rfl rfl (by decide) (fun (h1 : 30 < z1.toInt) => ?_) (fun (h2 : ¬ (30 < z1.toInt)) => ?_)
    ·
      refine hp_s (pc' := 37) (st' := [.int (-1)]) rfl rfl rfl ?_
      refine hp_ri rfl rfl ?_
      refine K (-1) ?_
      rw [← hg, gW_stop (by omega)]; decide
    ·
      refine hp_s (pc' := 19) (st' := [.int z]) rfl rfl rfl ?_
      refine hp_s (pc' := 21) (st' := [.int b, .int z]) rfl rfl rfl ?_
      refine hp_z (pc' := 22) (e := z >>> (b &&& 31)) (st' := []) rfl rfl rfl ?_
      intro z2 hz2
      refine hp_s (pc' := 23) (st' := [.int m, .int z2]) rfl rfl rfl ?_
      refine hp_z (pc' := 24) (e := z2 &&& m) (st' := []) rfl rfl rfl ?_
      intro z3 hz3
      refine hp_if (pc' := 27) (t := 30) (a := z3.toInt) rfl rfl rfl rfl (fun (h3 : z3.toInt ≠ 0) => ?_) (fun (h4 : ¬ (z3.toInt ≠ 0)) => ?_)
      ·
        refine hp_inc (L := fun z_ => [(4, .int z_), (3, .int m), (0, .int z), (1, .int f), (2, .int t)]) (pc' := 33) rfl rfl rfl (fun _ => rfl) rfl ?_
        intro z4 hz4
        have ez4 := i_add hz4 (show b.toInt = b.toInt from rfl) (show (Int32.ofInt 1).toInt = 1 from by decide)
        refine hp_go (pc' := 9) rfl rfl rfl ?_
        refine ih z4 (by omega) (by omega) ?_
        rw [← hg, show z4.toInt = b.toInt + 1 by omega]
        refine (gW_next (by omega) (fun g => ?_)).symm
        have q := (ff_t (z := z) (B := b) (L := t) (b := b.toInt.toNat) (t := t.toInt.toNat) (by omega) (by omega) hm (by omega) (by omega)).mpr (by rw [show ((t.toInt.toNat : Nat) : Int) = t.toInt by omega, show ((b.toInt.toNat : Nat) : Int) = b.toInt by omega]; exact g)
        rw [← hz2, ← hz3] at q
        exact absurd q (i_nz (by omega))
      ·
        refine hp_s (pc' := 29) (st' := [.int b]) rfl rfl rfl ?_
        refine hp_ri rfl rfl ?_
        refine K b ?_
        rw [← hg]
        refine (gW_hit (by omega) ?_).symm
        have q := (ff_t (z := z) (B := b) (L := t) (b := b.toInt.toNat) (t := t.toInt.toNat) (by omega) (by omega) hm (by omega) (by omega)).mp (by rw [← hz2, ← hz3]; exact i_z (by omega))
        rw [show ((t.toInt.toNat : Nat) : Int) = t.toInt by omega, show ((b.toInt.toNat : Nat) : Int) = b.toInt by omega] at q
        exact q
theorem s_firstFree {ro : List (List Int32)} {n d : Nat} {p : xH} {Q : Option Value → xH → Prop} {z : Int32} {zi : Int} {f : Int32} {fi : Int} {t : Int32} {ti : Int} (hz : z.toInt = zi) (hf : f.toInt = fi) (ht : t.toInt = ti) (pre0 : 0 ≤ fi) (pre1 : fi ≤ 30) (pre2 : 1 ≤ ti) (pre3 : ti ≤ 6) (k0 : ∀ r : Int32, (r.toInt = gW (dF z ti) (31 - ti) fi) → Q (some (.int r)) p) : hP ro n d (2, 5, 0, 1, k29) 0 (lv_args 0 [.int z, .int f, .int t]) [] p Q := by
  subst hz
  subst hf
  subst ht
  refine hp_id (ls := [(0, .int z), (1, .int f), (2, .int t)]) ?_
  refine hp_s (pc' := 1) (st' := [.int 1]) rfl rfl rfl ?_
  refine hp_s (pc' := 2) (st' := [.int t, .int 1]) rfl rfl rfl ?_
  refine hp_z (pc' := 3) (e := 1 <<< (t &&& 31)) (st' := []) rfl rfl rfl ?_
  intro z1 hz1
  refine hp_s (pc' := 4) (st' := [.int 1, .int z1]) rfl rfl rfl ?_
  refine hp_z (pc' := 5) (e := z1 - 1) (st' := []) rfl rfl rfl ?_
  intro z2 hz2
  have ez2 := i_sub hz2 (show z1.toInt = z1.toInt from rfl) (show (1 : Int32).toInt = 1 from by decide)
  refine hp_s (pc' := 6) (ls' := [(3, .int z2), (0, .int z), (1, .int f), (2, .int t)]) (st' := []) rfl rfl rfl ?_
  refine hp_s (pc' := 7) (st' := [.int f]) rfl rfl rfl ?_
  refine hp_s (pc' := 9) (ls' := [(4, .int f), (3, .int z2), (0, .int z), (1, .int f), (2, .int t)]) (st' := []) rfl rfl rfl ?_
  exact lp_29 (z := z) (f := f) (t := t) (by rw [hz2, hz1]) pre0 pre1 pre2 pre3 k0 n f (by omega) (by omega) rfl
