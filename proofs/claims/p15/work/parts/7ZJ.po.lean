/-! contracts of methods, walked -/
abbrev T_po : List (Nat × Nat) := [(79, 9999), (80, 9999), (81, 9999), (66, 25)]
theorem dB_e {Sh Sh' : Int → Int → Prop} {s t f : Int} (h : ∀ m : Int, 0 ≤ m → m < 30 → (Sh s m ↔ Sh' s m)) (hf : 0 ≤ f) : dB Sh s t f = dB Sh' s t f := by
  unfold dB
  refine gW_e (fun b h1 h2 => ?_)
  exact ⟨fun g j j1 j2 q => g j j1 j2 ((h _ (by omega) (by omega)).mpr q), fun g j j1 j2 q => g j j1 j2 ((h _ (by omega) (by omega)).mp q)⟩
/-- the others' rows stay -/
def hOm (p p2 : xH) (x : Nat) : Prop := ∀ j, j ≠ x → (∀ m, m < 30 → rI p2 79 (30 * j + m) = rI p 79 (30 * j + m)) ∧ rI p2 80 j = rI p 80 j ∧ rI p2 81 j = rI p 81 j
theorem hOm_0 {p : xH} {x : Nat} : hOm p p x := fun _ _ => ⟨fun _ _ => rfl, rfl, rfl⟩
theorem hOm_tr {p p1 p2 : xH} {x : Nat} (h : hOm p p1 x) (g : hOm p1 p2 x) : hOm p p2 x := fun j hj => by
  obtain ⟨a1, a2, a3⟩ := h j hj
  obtain ⟨b1, b2, b3⟩ := g j hj
  exact ⟨fun s hs => (b1 s hs).trans (a1 s hs), b2.trans a2, b3.trans a3⟩
theorem hOm_w {p p2 : xH} {X r : Nat} {v : Int32} (hr : r = 80 ∨ r = 81) (e : p2 = wV p r X (.int v)) : hOm p p2 X := fun j hj => by
  have o : ∀ r' i, r' ≠ r ∨ i ≠ X → rI p2 r' i = rI p r' i := fun r' i h => by
    rw [e]
    exact rI_ne (fun e1 e2 => by rcases h with h | h; exact h e1; exact h e2)
  exact ⟨fun s _ => o 79 _ (Or.inl (by omega)), o 80 j (Or.inr hj), o 81 j (Or.inr hj)⟩
theorem hOm_79 {p p2 : xH} {X i m : Nat} {v : Int32} (hi : i = 30 * X + m) (hm : m < 30) (e : p2 = wV p 79 i (.int v)) : hOm p p2 X := fun j hj => by
  have o : ∀ r' k, r' ≠ 79 ∨ k ≠ i → rI p2 r' k = rI p r' k := fun r' k h => by
    rw [e]
    exact rI_ne (fun e1 e2 => by rcases h with h | h; exact h e1; exact h e2)
  exact ⟨fun u _ => o 79 _ (Or.inr (by omega)), o 80 j (Or.inl (by decide)), o 81 j (Or.inl (by decide))⟩
theorem hOm_e {p p1 p2 : xH} {X : Nat} (h : hOm p p1 X) (e79 : ∀ j, rI p2 79 j = rI p1 79 j) (e80 : ∀ j, rI p2 80 j = rI p1 80 j) (e81 : ∀ j, rI p2 81 j = rI p1 81 j) : hOm p p2 X := fun j hj => by
  obtain ⟨a1, a2, a3⟩ := h j hj
  exact ⟨fun m hm => by rw [e79]; exact a1 m hm, by rw [e80]; exact a2, by rw [e81]; exact a3⟩
def hDm (p : xH) (x : Nat) (r : dS) (T : Int32) : Prop := (∀ m : Nat, m < 30 → (rI p 79 (30 * x + m)).toInt = dw r m) ∧ (rI p 80 x).toInt = dBa r ∧ rI p 81 x = dWt T r
theorem hDm_ot {p p2 : xH} {x j : Nat} {r : dS} {T : Int32} (h : hOm p p2 x) (hj : j ≠ x) (g : hDm p j r T) : hDm p2 j r T := by
  obtain ⟨a1, a2, a3⟩ := h j hj
  obtain ⟨b1, b2, b3⟩ := g
  exact ⟨fun m hm => by rw [a1 m hm]; exact b1 m hm, by rw [a2]; exact b2, by rw [a3]; exact b3⟩
theorem shm_ok {p0 p : xH} {A : Nat → Nat → Prop} {S X : Nat} {W : Nat → dS} {l : List Nat} (hO : hOm p0 p X) (e78 : rI p 78 X = rI p0 78 X) (e25 : rI p 66 25 = rI p0 66 25) (hR : hLk A S X (rI p0 78 X)) (ha : ∀ j, j < 32 → (bI (rI p0 66 25) j = true ↔ j ∈ l)) (hWl : ∀ j, j ∈ l → j < S → ∀ m : Nat, m < 30 → (rI p0 79 (30 * j + m)).toInt = dw (W j) m) (hS : S ≤ 7) (s m : Int) (m0 : 0 ≤ m) (m30 : m < 30) : shM p S X s m ↔ dSh A S W l X s m := by
  unfold shM dSh
  rw [e78, e25]
  have em : ((m.toNat : Nat) : Int) = m := by omega
  constructor
  · rintro ⟨j, a1, a2, a3⟩
    rw [bI_and, Bool.and_eq_true] at a2
    obtain ⟨-, b2, b3⟩ := (hR j (by omega)).mp a2.1
    have b4 := (ha j (by omega)).mp a2.2
    rw [(hO j (Ne.symm b2)).1 _ (by omega), hWl j b4 a1 _ (by omega), em] at a3
    exact ⟨j, b4, a1, b2, b3, a3⟩
  · rintro ⟨j, a1, a2, a3, a4, a5⟩
    refine ⟨j, a2, ?_, ?_⟩
    · rw [bI_and, Bool.and_eq_true]
      exact ⟨(hR j (by omega)).mpr ⟨a2, a3, a4⟩, (ha j (by omega)).mpr a1⟩
    · rw [(hO j (Ne.symm a3)).1 _ (by omega), hWl j a1 a2 _ (by omega), em]
      exact a5
theorem hOm_clr {p p2 : xH} {X : Nat} (n : hNt [(79, 9999)] p p2) (h : ∀ j, rI p2 79 j = if 30 * X ≤ j ∧ j < 30 * X + 30 then -1 else rI p 79 j) : hOm p p2 X := fun j hj => ⟨fun m hm => by rw [h, if_neg (by omega)], n.int (r := 80) rfl, n.int (r := 81) rfl⟩
theorem lp_216a {ro : List (List Int32)} {d : Nat} {Q : Option Value → xH → Prop} {p0 : xH} {x : Int32} {N : Nat} (x0 : 0 ≤ x.toInt) (x7 : x.toInt < 7) (K : ∀ m : Nat, m ≤ N → ∀ (k : Int32) (p2 : xH), (hNt [(79, 9999)] p0 p2) → (∀ j, rI p2 79 j = if 30 * x.toInt.toNat ≤ j ∧ j < 30 * x.toInt.toNat + 30 then -1 else rI p0 79 j) → hP ro m d (12, 6, 1, 0, k216) 26 [(2, .int k), (0, .ref 66), (1, .int x)] [] p2 Q) : ∀ (n : Nat) (hn : n ≤ N) (k : Int32) (p : xH), (0 ≤ k.toInt) → (k.toInt ≤ 30) → (hNt [(79, 9999)] p0 p) → (∀ j, rI p 79 j = if 30 * x.toInt.toNat ≤ j ∧ j < 30 * x.toInt.toNat + k.toInt.toNat then -1 else rI p0 79 j) → hP ro n d (12, 6, 1, 0, k216) 2 [(2, .int k), (0, .ref 66), (1, .int x)] [] p Q := by
  intro n
  induction n with
  | zero => intros; exact hp_0
  | succ n ih =>
    intro hn k p hk1 hk2 hN hO
    refine hp_hw (fun wp => ?_)
    refine hp_s1 (pc' := 3) (st' := [.int k]) rfl rfl rfl ?_
    refine hp_s (pc' := 5) (st' := [.int 30, .int k]) rfl rfl rfl ?_
    refine hp_ic (pc' := 8) (t := 26) (a := k.toInt) (b := 30) rfl rfl rfl rfl (by decide) (fun (h1 : 30 ≤ k.toInt) => ?_) (fun (h2 : ¬ (30 ≤ k.toInt)) => ?_)
    ·
      exact K n (by omega) _ p hN (fun j => by rw [hO j, show k.toInt.toNat = 30 by omega])
    ·
      refine hp_s (pc' := 9) (st' := [.ref 66]) rfl rfl rfl ?_
      refine hp_getr (k := 22) (w := .ref 79) (pc' := 12) rfl rfl rfl rfl rfl ?_
      refine hp_s (pc' := 14) (st' := [.int 30, .ref 79]) rfl rfl rfl ?_
      refine hp_s (pc' := 15) (st' := [.int x, .int 30, .ref 79]) rfl rfl rfl ?_
      refine hp_z (pc' := 16) (e := 30 * x) (st' := [.ref 79]) rfl rfl rfl ?_
      intro z1 hz1
      have ez1 := i_mul hz1 (show (30 : Int32).toInt = 30 from by decide) (show x.toInt = x.toInt from rfl)
      refine hp_s (pc' := 17) (st' := [.int k, .int z1, .ref 79]) rfl rfl rfl ?_
      refine hp_z (pc' := 18) (e := z1 + k) (st' := [.ref 79]) rfl rfl rfl ?_
      intro z2 hz2
      have ez2 := i_add hz2 (show z1.toInt = z1.toInt from rfl) (show k.toInt = k.toInt from rfl)
      refine hp_s (pc' := 19) (st' := [.int (-1), .int z2, .ref 79]) rfl rfl rfl ?_
      refine hp_st (t := 100) rfl (.inl rfl) rfl rfl ?_
      intro p1 wp1 (p1a : 0 ≤ z2.toInt) (p1b : z2.toInt < 210) ep1
      refine hp_inc (L := fun z_ => [(2, .int z_), (0, .ref 66), (1, .int x)]) (pc' := 23) rfl rfl rfl (fun _ => rfl) rfl ?_
      intro z3 hz3
      have ez3 := i_add hz3 (show k.toInt = k.toInt from rfl) (show (Int32.ofInt 1).toInt = 1 from by decide)
      refine hp_go (pc' := 2) rfl rfl rfl ?_
      refine ih (by omega) z3 p1 (by omega) (by omega) (by rw [ep1]; exact hN.w rfl) (fun j => ?_)
      rw [ep1, rI_w wp (by show _ < 210; omega)]
      by_cases g : j = 30 * x.toInt.toNat + k.toInt.toNat
      · rw [if_pos (by omega), if_pos (by omega)]
      · rw [if_neg (by omega), hO j]
        by_cases g2 : 30 * x.toInt.toNat ≤ j ∧ j < 30 * x.toInt.toNat + k.toInt.toNat
        · rw [if_pos g2, if_pos (by omega)]
        · rw [if_neg g2, if_neg (by omega)]
theorem lp_216c {ro : List (List Int32)} {d : Nat} {Q : Option Value → xH → Prop} {p0 : xH} {x k b s : Int32} {T F : Int} {w : Int → Int} {N : Nat} (x0 : 0 ≤ x.toInt) (x7 : x.toInt < 7) (hk1 : 0 ≤ k.toInt) (hk4 : k.toInt < 4) (hT : 1 ≤ T ∧ T ≤ 6) (h74 : (rI p0 74 (4 * x.toInt.toNat + k.toInt.toNat)).toInt = T) (h73 : rI p0 73 (4 * x.toInt.toNat + k.toInt.toNat) = s) (hbt : 0 ≤ b.toInt → b.toInt + T ≤ 30) (K : ∀ m : Nat, m ≤ N → ∀ (u f : Int32) (p2 : xH), ((b.toInt < 0 ∧ u.toInt = 0) ∨ (0 ≤ b.toInt ∧ u.toInt = T)) → (hNt [(79, 9999)] p0 p2) → (hOm p0 p2 x.toInt.toNat) → (∀ i : Nat, i < 30 → (rI p2 79 (30 * x.toInt.toNat + i)).toInt = iP (b.toInt ≤ i ∧ (i : Int) < b.toInt + u.toInt) s.toInt (w i)) → (f.toInt = iP (0 < u.toInt) (b.toInt + u.toInt) F) → hP ro m d (12, 6, 1, 0, k216) 143 [(5, .int u), (2, .int f), (3, .int k), (4, .int b), (0, .ref 66), (1, .int x)] [] p2 Q) : ∀ (n : Nat) (hn : n ≤ N) (u : Int32) (f : Int32) (p : xH), (0 ≤ u.toInt) → (u.toInt ≤ T) → (0 ≤ b.toInt ∨ u.toInt = 0) → (hNt [(79, 9999)] p0 p) → (hOm p0 p x.toInt.toNat) → (∀ i : Nat, i < 30 → (rI p 79 (30 * x.toInt.toNat + i)).toInt = iP (b.toInt ≤ i ∧ (i : Int) < b.toInt + u.toInt) s.toInt (w i)) → (f.toInt = iP (0 < u.toInt) (b.toInt + u.toInt) F) → hP ro n d (12, 6, 1, 0, k216) 84 [(5, .int u), (2, .int f), (3, .int k), (4, .int b), (0, .ref 66), (1, .int x)] [] p Q := by
  intro n
  induction n with
  | zero => intros; exact hp_0
  | succ n ih =>
    intro hn u f p hu1 hu2 hub hN hO hr hf
    refine hp_hw (fun wp => ?_)
    refine hp_s1 (pc' := 86) (st' := [.int u]) rfl rfl rfl ?_
    refine hp_s (pc' := 87) (st' := [.ref 66, .int u]) rfl rfl rfl ?_
    refine hp_getr (k := 10) (w := .ref 74) (pc' := 90) rfl rfl rfl rfl rfl ?_
    refine hp_s (pc' := 91) (st' := [.int 4, .ref 74, .int u]) rfl rfl rfl ?_
    refine hp_s (pc' := 92) (st' := [.int x, .int 4, .ref 74, .int u]) rfl rfl rfl ?_
    refine hp_z (pc' := 93) (e := 4 * x) (st' := [.ref 74, .int u]) rfl rfl rfl ?_
    intro z1 hz1
    have ez1 := i_mul hz1 (show (4 : Int32).toInt = 4 from by decide) (show x.toInt = x.toInt from rfl)
    refine hp_s (pc' := 94) (st' := [.int k, .int z1, .ref 74, .int u]) rfl rfl rfl ?_
    refine hp_z (pc' := 95) (e := z1 + k) (st' := [.ref 74, .int u]) rfl rfl rfl ?_
    intro z2 hz2
    have ez2 := i_add hz2 (show z1.toInt = z1.toInt from rfl) (show k.toInt = k.toInt from rfl)
    refine hp_ld (t := 100) (v := (rI p 74 z2.toInt.toNat)) rfl (.inl rfl) rfl rfl rfl ?_
    intro (g1a : 0 ≤ z2.toInt) (g1b : z2.toInt < 28)
    have q19 : (rI p 74 z2.toInt.toNat).toInt = T := by rw [← h74, hN.int (r := 74) rfl]; congr 2; omega
    refine hp_ic (pc' := 99) (t := 143) (a := u.toInt) (b := (rI p 74 z2.toInt.toNat).toInt) rfl rfl rfl rfl rfl (fun (h1 : (rI p 74 z2.toInt.toNat).toInt ≤ u.toInt) => ?_) (fun (h2 : ¬ ((rI p 74 z2.toInt.toNat).toInt ≤ u.toInt)) => ?_)
    ·
      exact K n (by omega) _ _ p (by omega) hN hO hr hf
    ·
      refine hp_s (pc' := 101) (st' := [.int b]) rfl rfl rfl ?_
      refine hp_if (pc' := 104) (t := 143) (a := b.toInt) rfl rfl rfl rfl (fun (h3 : b.toInt < 0) => ?_) (fun (h4 : ¬ (b.toInt < 0)) => ?_)
      ·
        exact K n (by omega) _ _ p (by omega) hN hO hr hf
      ·
        refine hp_s (pc' := 105) (st' := [.ref 66]) rfl rfl rfl ?_
        refine hp_getr (k := 22) (w := .ref 79) (pc' := 108) rfl rfl rfl rfl rfl ?_
        refine hp_s (pc' := 110) (st' := [.int 30, .ref 79]) rfl rfl rfl ?_
        refine hp_s (pc' := 111) (st' := [.int x, .int 30, .ref 79]) rfl rfl rfl ?_
        refine hp_z (pc' := 112) (e := 30 * x) (st' := [.ref 79]) rfl rfl rfl ?_
        intro z3 hz3
        have ez3 := i_mul hz3 (show (30 : Int32).toInt = 30 from by decide) (show x.toInt = x.toInt from rfl)
        refine hp_s (pc' := 114) (st' := [.int b, .int z3, .ref 79]) rfl rfl rfl ?_
        refine hp_z (pc' := 115) (e := z3 + b) (st' := [.ref 79]) rfl rfl rfl ?_
        intro z4 hz4
        have ez4 := i_add hz4 (show z3.toInt = z3.toInt from rfl) (show b.toInt = b.toInt from rfl)
        refine hp_s (pc' := 117) (st' := [.int u, .int z4, .ref 79]) rfl rfl rfl ?_
        refine hp_z (pc' := 118) (e := z4 + u) (st' := [.ref 79]) rfl rfl rfl ?_
        intro z5 hz5
        have ez5 := i_add hz5 (show z4.toInt = z4.toInt from rfl) (show u.toInt = u.toInt from rfl)
        refine hp_s (pc' := 119) (st' := [.ref 66, .int z5, .ref 79]) rfl rfl rfl ?_
        refine hp_getr (k := 9) (w := .ref 73) (pc' := 122) rfl rfl rfl rfl rfl ?_
        refine hp_s (pc' := 123) (st' := [.int 4, .ref 73, .int z5, .ref 79]) rfl rfl rfl ?_
        refine hp_s (pc' := 124) (st' := [.int x, .int 4, .ref 73, .int z5, .ref 79]) rfl rfl rfl ?_
        refine hp_z (pc' := 125) (e := 4 * x) (st' := [.ref 73, .int z5, .ref 79]) rfl rfl rfl ?_
        intro z6 hz6
        have ez6 := i_mul hz6 (show (4 : Int32).toInt = 4 from by decide) (show x.toInt = x.toInt from rfl)
        refine hp_s (pc' := 126) (st' := [.int k, .int z6, .ref 73, .int z5, .ref 79]) rfl rfl rfl ?_
        refine hp_z (pc' := 127) (e := z6 + k) (st' := [.ref 73, .int z5, .ref 79]) rfl rfl rfl ?_
        intro z7 hz7
        have ez7 := i_add hz7 (show z6.toInt = z6.toInt from rfl) (show k.toInt = k.toInt from rfl)
        refine hp_ld (t := 100) (v := (rI p 73 z7.toInt.toNat)) rfl (.inl rfl) rfl rfl rfl ?_
        intro (g2a : 0 ≤ z7.toInt) (g2b : z7.toInt < 28)
        have q18 : (rI p 73 z7.toInt.toNat) = s := by rw [← h73, hN.int (r := 73) rfl]; congr 1; omega
        refine hp_st (t := 100) rfl (.inl rfl) rfl rfl ?_
        intro p1 wp1 (p1a : 0 ≤ z5.toInt) (p1b : z5.toInt < 210) ep1
        refine hp_s (pc' := 131) (st' := [.int b]) rfl rfl rfl ?_
        refine hp_s (pc' := 133) (st' := [.int u, .int b]) rfl rfl rfl ?_
        refine hp_z (pc' := 134) (e := b + u) (st' := []) rfl rfl rfl ?_
        intro z8 hz8
        have ez8 := i_add hz8 (show b.toInt = b.toInt from rfl) (show u.toInt = u.toInt from rfl)
        refine hp_s (pc' := 135) (st' := [.int 1, .int z8]) rfl rfl rfl ?_
        refine hp_z (pc' := 136) (e := z8 + 1) (st' := []) rfl rfl rfl ?_
        intro z9 hz9
        have ez9 := i_add hz9 (show z8.toInt = z8.toInt from rfl) (show (1 : Int32).toInt = 1 from by decide)
        refine hp_s (pc' := 137) (ls' := [(2, .int z9), (5, .int u), (3, .int k), (4, .int b), (0, .ref 66), (1, .int x)]) (st' := []) rfl rfl rfl ?_
        refine hp_inc (L := fun z_ => [(5, .int z_), (2, .int z9), (3, .int k), (4, .int b), (0, .ref 66), (1, .int x)]) (pc' := 140) rfl rfl rfl (fun _ => rfl) rfl ?_
        intro z10 hz10
        have ez10 := i_add hz10 (show u.toInt = u.toInt from rfl) (show (Int32.ofInt 1).toInt = 1 from by decide)
        refine hp_go (pc' := 84) rfl rfl rfl ?_
        have hb0 : b.toInt + T ≤ 30 := hbt (by omega)
        have hix : z5.toInt.toNat = 30 * x.toInt.toNat + (b.toInt + u.toInt).toNat := by omega
        refine ih (by omega) z10 z9 p1 (by omega) (by omega) (Or.inl (by omega)) (by rw [ep1]; exact hN.w rfl) (hOm_tr hO (hOm_79 hix (by omega) ep1)) (fun i hi => ?_) ?_
        · rw [ep1, rI_w wp (by show _ < 210; omega), hix]
          by_cases g : i = (b.toInt + u.toInt).toNat
          · rw [if_pos (by omega), q18]; exact (iP_y (by omega)).symm
          · rw [if_neg (by omega), hr i hi]; exact iP_e (by omega)
        · exact Eq.trans (by omega) (iP_y (by omega)).symm
theorem lp_216b {ro : List (List Int32)} {d : Nat} {Q : Option Value → xH → Prop} {p0 : xH} {S : Nat} {A : Nat → Nat → Prop} {W : Nat → dS} {l : List Nat} {x : Int32} {N : Nat} (hS : (rI p0 66 6).toInt = (S : Int)) (hS7 : S ≤ 7) (hx0 : 0 ≤ x.toInt) (hx7 : x.toInt < 7) (hR : hLk A S x.toInt.toNat (rI p0 78 x.toInt.toNat)) (ha : ∀ j, j < 32 → (bI (rI p0 66 25) j = true ↔ j ∈ l)) (hWl : ∀ j, j ∈ l → j < S → ∀ m : Nat, m < 30 → (rI p0 79 (30 * j + m)).toInt = dw (W j) m) (he : 0 ≤ (rI p0 72 x.toInt.toNat).toInt ∧ (rI p0 72 x.toInt.toNat).toInt ≤ 4) (hs : ∀ k, k < (dre p0 72 x.toInt.toNat) → 0 ≤ drs p0 73 x.toInt.toNat k ∧ drs p0 73 x.toInt.toNat k ≤ 4) (ht : ∀ k, k < (dre p0 72 x.toInt.toNat) → 1 ≤ drs p0 74 x.toInt.toNat k ∧ drs p0 74 x.toInt.toNat k ≤ 6) (K : ∀ m : Nat, m ≤ N → ∀ (k f b u : Int32) (p2 : xH) (w : Int → Int), (hNt [(79, 9999), (80, 9999)] p0 p2) → (hOm p0 p2 x.toInt.toNat) → ((∃ q, dK (dSh A S W l x.toInt.toNat) (drs p0 73 x.toInt.toNat) (drs p0 74 x.toInt.toNat) (dre p0 72 x.toInt.toNat) = some q ∧ f.toInt = q.2.1 ∧ w = q.2.2 ∧ (rI p2 80 x.toInt.toNat).toInt = 0) ∨ (dK (dSh A S W l x.toInt.toNat) (drs p0 73 x.toInt.toNat) (drs p0 74 x.toInt.toNat) (dre p0 72 x.toInt.toNat) = none ∧ (rI p2 80 x.toInt.toNat).toInt = 1)) → (∀ i : Nat, i < 30 → (rI p2 79 (30 * x.toInt.toNat + i)).toInt = w i) → hP ro m d (12, 6, 1, 0, k216) 149 [(3, .int k), (2, .int f), (4, .int b), (5, .int u), (0, .ref 66), (1, .int x)] [] p2 Q) : ∀ (n : Nat) (hn : n ≤ N) (k : Int32) (f : Int32) (b : Int32) (u : Int32) (p : xH) (w : Int → Int), (0 ≤ k.toInt) → (k.toInt ≤ (rI p0 72 x.toInt.toNat).toInt) → (hNt [(79, 9999), (80, 9999)] p0 p) → (hOm p0 p x.toInt.toNat) → ((∃ q, dK (dSh A S W l x.toInt.toNat) (drs p0 73 x.toInt.toNat) (drs p0 74 x.toInt.toNat) k.toInt.toNat = some q ∧ f.toInt = q.2.1 ∧ w = q.2.2 ∧ (rI p 80 x.toInt.toNat).toInt = 0) ∨ (dK (dSh A S W l x.toInt.toNat) (drs p0 73 x.toInt.toNat) (drs p0 74 x.toInt.toNat) k.toInt.toNat = none ∧ (rI p 80 x.toInt.toNat).toInt = 1)) → (∀ i : Nat, i < 30 → (rI p 79 (30 * x.toInt.toNat + i)).toInt = w i) → hP ro n d (12, 6, 1, 0, k216) 37 [(3, .int k), (2, .int f), (4, .int b), (5, .int u), (0, .ref 66), (1, .int x)] [] p Q := by
  intro n
  induction n with
  | zero => intros; exact hp_0
  | succ n ih =>
    intro hn k f b u p w hk1 hk2 hN hO hr hrow
    refine hp_hw (fun wp => ?_)
    obtain ⟨he1, he2⟩ := he
    have t72 : (rI p 72 x.toInt.toNat).toInt = (rI p0 72 x.toInt.toNat).toInt := by rw [hN.int (r := 72) rfl]
    have t6 : (rI p 66 6).toInt = (S : Int) := by rw [hN.int (r := 66) (k := 6) rfl]; exact hS
    have e78 : rI p 78 x.toInt.toNat = rI p0 78 x.toInt.toNat := hN.int (r := 78) rfl
    have e25 : rI p 66 25 = rI p0 66 25 := hN.int (r := 66) (k := 25) rfl
    have e73s : drs p 73 = drs p0 73 := drs_e (fun j => hN.int (r := 73) rfl)
    have e74s : drs p 74 = drs p0 74 := drs_e (fun j => hN.int (r := 74) rfl)
    have hde : (dre p0 72 x.toInt.toNat) = (rI p0 72 x.toInt.toNat).toInt.toNat := rfl
    refine hp_s1 (pc' := 38) (st' := [.int k]) rfl rfl rfl ?_
    refine hp_s (pc' := 39) (st' := [.ref 66, .int k]) rfl rfl rfl ?_
    refine hp_getr (k := 8) (w := .ref 72) (pc' := 42) rfl rfl rfl rfl rfl ?_
    refine hp_s (pc' := 43) (st' := [.int x, .ref 72, .int k]) rfl rfl rfl ?_
    refine hp_ld (t := 100) (v := (rI p 72 x.toInt.toNat)) rfl (.inl rfl) rfl rfl rfl ?_
    intro (g1a : 0 ≤ x.toInt) (g1b : x.toInt < 7)
    refine hp_ic (pc' := 47) (t := 149) (a := k.toInt) (b := (rI p 72 x.toInt.toNat).toInt) rfl rfl rfl rfl rfl (fun (h1 : (rI p 72 x.toInt.toNat).toInt ≤ k.toInt) => ?_) (fun (h2 : ¬ ((rI p 72 x.toInt.toNat).toInt ≤ k.toInt)) => ?_)
    ·
      exact K n (by omega) _ _ _ _ p w hN hO (by rcases hr with ⟨q, c1, c2, c3, c4⟩ | ⟨c1, c2⟩; exact Or.inl ⟨q, by rw [show (dre p0 72 x.toInt.toNat) = k.toInt.toNat by omega]; exact c1, c2, c3, c4⟩; exact Or.inr ⟨dK_none c1 (by omega), c2⟩) hrow
    ·
      refine hp_s (pc' := 48) (st' := [.ref 66]) rfl rfl rfl ?_
      refine hp_getr (k := 23) (w := .ref 80) (pc' := 51) rfl rfl rfl rfl rfl ?_
      refine hp_s (pc' := 52) (st' := [.int x, .ref 80]) rfl rfl rfl ?_
      refine hp_ld (t := 101) (v := (rI p 80 x.toInt.toNat)) rfl (.inr rfl) rfl rfl rfl ?_
      intro (g2a : 0 ≤ x.toInt) (g2b : x.toInt < 7)
      refine hp_if (pc' := 56) (t := 149) (a := (rI p 80 x.toInt.toNat).toInt) rfl rfl rfl rfl (fun (h3 : (rI p 80 x.toInt.toNat).toInt ≠ 0) => ?_) (fun (h4 : ¬ ((rI p 80 x.toInt.toNat).toInt ≠ 0)) => ?_)
      ·
        exact K n (by omega) _ _ _ _ p w hN hO (by rcases hr with ⟨q, c1, c2, c3, c4⟩ | ⟨c1, c2⟩; exact Or.inl ⟨q, by rw [show (dre p0 72 x.toInt.toNat) = k.toInt.toNat by omega]; exact c1, c2, c3, c4⟩; exact Or.inr ⟨dK_none c1 (by omega), c2⟩) hrow
      ·
        obtain ⟨q, c1, c2, c3, c4⟩ : ∃ q, dK (dSh A S W l x.toInt.toNat) (drs p0 73 x.toInt.toNat) (drs p0 74 x.toInt.toNat) k.toInt.toNat = some q ∧ f.toInt = q.2.1 ∧ w = q.2.2 ∧ (rI p 80 x.toInt.toNat).toInt = 0 := by rcases hr with h | h; exact h; exact absurd h.2 (by omega)
        clear hr
        subst c3
        have hkl : k.toInt.toNat < (dre p0 72 x.toInt.toNat) := by omega
        have hI := dK_inv hs ht (k := k.toInt.toNat) (by omega) c1
        have i1 := hI.1
        have i2 := hI.2.1
        have bs := hs _ hkl
        have bt := ht _ hkl
        have bt1 : 1 ≤ drs p 74 x.toInt.toNat k.toInt.toNat := by rw [e74s]; exact bt.1
        have bt2 : drs p 74 x.toInt.toNat k.toInt.toNat ≤ 6 := by rw [e74s]; exact bt.2
        refine hp_s (pc' := 57) (st' := [.ref 66]) rfl rfl rfl ?_
        refine hp_s (pc' := 58) (st' := [.int x, .ref 66]) rfl rfl rfl ?_
        refine hp_s (pc' := 59) (st' := [.int k, .int x, .ref 66]) rfl rfl rfl ?_
        refine hp_s (pc' := 60) (st' := [.int f, .int k, .int x, .ref 66]) rfl rfl rfl ?_
        refine hp_cv (r := 66) (o := 12) (kd := 1) (as := [.int x, .int k, .int f]) (rest := []) (pc' := 63) rfl rfl rfl rfl rfl rfl rfl rfl rfl (fun d1 => ?_)
        refine s_begins1 S (xi := x.toInt) rfl (ki := k.toInt) rfl (fi := f.toInt) rfl (by first | assumption | omega) (by first | assumption | omega) (by first | assumption | omega) (by first | assumption | omega) (by first | assumption | omega) (by first | assumption | omega) (by first | assumption | omega) (by first | assumption | omega) ?_
        intro y1 h5
        have hdb : dB (dSh A S W l x.toInt.toNat) (drs p0 73 x.toInt.toNat k.toInt.toNat) (drs p0 74 x.toInt.toNat k.toInt.toNat) q.2.1 = y1.toInt := by rw [h5, e73s, e74s, c2]; exact (dB_e (fun m m0 m30 => shm_ok hO e78 e25 hR ha hWl hS7 _ m m0 m30) i1).symm
        refine hp_id (st := [.int y1]) ?_
        refine hp_s (pc' := 65) (ls' := [(4, .int y1), (3, .int k), (2, .int f), (5, .int u), (0, .ref 66), (1, .int x)]) (st' := []) rfl rfl rfl ?_
        refine hp_s (pc' := 66) (st' := [.ref 66]) rfl rfl rfl ?_
        refine hp_getr (k := 23) (w := .ref 80) (pc' := 69) rfl rfl rfl rfl rfl ?_
        refine hp_s (pc' := 70) (st' := [.int x, .ref 80]) rfl rfl rfl ?_
        refine hp_s (pc' := 72) (st' := [.int y1, .int x, .ref 80]) rfl rfl rfl ?_
        refine hp_if (pc' := 75) (t := 79) (a := y1.toInt) rfl rfl rfl rfl (fun (h6 : 0 ≤ y1.toInt) => ?_) (fun (h7 : ¬ (0 ≤ y1.toInt)) => ?_)
        ·
          refine hp_s (pc' := 80) (st' := [.int 0, .int x, .ref 80]) rfl rfl rfl ?_
          refine hp_st (t := 101) rfl (.inr rfl) rfl rfl ?_
          intro p1 wp1 (p1a : 0 ≤ x.toInt) (p1b : x.toInt < 7) ep1
          refine hp_s (pc' := 82) (st' := [.int 0]) rfl rfl rfl ?_
          refine hp_s (pc' := 84) (ls' := [(5, .int 0), (4, .int y1), (3, .int k), (2, .int f), (0, .ref 66), (1, .int x)]) (st' := []) rfl rfl rfl ?_
          refine hp_ls (ls' := [(5, .int 0), (2, .int f), (3, .int k), (4, .int y1), (0, .ref 66), (1, .int x)]) rfl rfl ⟨rfl, rfl, rfl, rfl, rfl, rfl, trivial⟩ ?_
          refine lp_216c (p0 := p1) (N := n) (x := x) (k := k) (b := y1) (s := rI p0 73 (4 * x.toInt.toNat + k.toInt.toNat)) (T := drs p0 74 x.toInt.toNat k.toInt.toNat) (F := f.toInt) (w := q.2.2) hx0 hx7 hk1 (by omega) bt (by show (rI p1 74 _).toInt = (rI p0 74 _).toInt; rw [ep1, rI_o (by decide), hN.int (r := 74) rfl]) (by rw [ep1, rI_o (by decide), hN.int (r := 73) rfl]) (fun g => (dI_s hI hdb g bs bt).2.1) (fun m0 hm0 u f2 pe j1 j2 j3 j4 j5 => ?_) n (Nat.le_refl _) 0 f p1 (by decide) (by have h00 : (0 : Int32).toInt = 0 := (by decide); omega) (Or.inr (by decide)) (hNt.refl _ _) hOm_0 (fun i hi => by rw [ep1, rI_o (by decide), hrow i hi]; exact (iP_n (by have h00 : (0 : Int32).toInt = 0 := (by decide); omega)).symm) (iP_n (by decide)).symm
          refine hp_inc (L := fun z_ => [(3, .int z_), (5, .int u), (2, .int f2), (4, .int y1), (0, .ref 66), (1, .int x)]) (pc' := 146) rfl rfl rfl (fun _ => rfl) rfl ?_
          intro z1 hz1
          have ez1 := i_add hz1 (show k.toInt = k.toInt from rfl) (show (Int32.ofInt 1).toInt = 1 from by decide)
          refine hp_go (pc' := 37) rfl rfl rfl ?_
          refine hp_ls (ls' := [(3, .int z1), (2, .int f2), (4, .int y1), (5, .int u), (0, .ref 66), (1, .int x)]) rfl rfl ⟨rfl, rfl, rfl, rfl, rfl, rfl, trivial⟩ ?_
          have n3 : hNt [(79, 9999), (80, 9999)] p0 pe := hNt.trans hN (hNt.trans (by rw [ep1]; exact (hNt.refl _ _).w rfl) (j2.up (by decide)))
          have o3 : hOm p0 pe x.toInt.toNat := hOm_tr hO (hOm_tr (hOm_w (Or.inl rfl) ep1) j3)
          have f80 : (rI pe 80 x.toInt.toNat).toInt = 0 := by rw [j2.int (r := 80) rfl, ep1, rI_eq wp1 (by show _ < 7; omega)]; decide
          have hk2 : z1.toInt.toNat = k.toInt.toNat + 1 := by omega
          have hu : u.toInt = drs p0 74 x.toInt.toNat k.toInt.toNat := by omega
          refine hp_le hm0 (ih (by omega) z1 f2 y1 u pe (fun i => iP (y1.toInt ≤ i ∧ i < y1.toInt + drs p0 74 x.toInt.toNat k.toInt.toNat) (drs p0 73 x.toInt.toNat k.toInt.toNat) (q.2.2 i)) (by omega) (by omega) n3 o3 (Or.inl ⟨_, by rw [hk2]; exact dK_yes c1 hdb (by omega), ?_, rfl, f80⟩) (fun i hi => ?_))
          · rw [j5, iP_y (by omega), hu]
          · rw [j4 i hi, hu]; rfl
        ·
          refine hp_s (pc' := 76) (st' := [.int 1, .int x, .ref 80]) rfl rfl rfl ?_
          refine hp_go (pc' := 80) rfl rfl rfl ?_
          refine hp_st (t := 101) rfl (.inr rfl) rfl rfl ?_
          intro p2 wp2 (p2a : 0 ≤ x.toInt) (p2b : x.toInt < 7) ep2
          refine hp_s (pc' := 82) (st' := [.int 0]) rfl rfl rfl ?_
          refine hp_s (pc' := 84) (ls' := [(5, .int 0), (4, .int y1), (3, .int k), (2, .int f), (0, .ref 66), (1, .int x)]) (st' := []) rfl rfl rfl ?_
          refine hp_ls (ls' := [(5, .int 0), (2, .int f), (3, .int k), (4, .int y1), (0, .ref 66), (1, .int x)]) rfl rfl ⟨rfl, rfl, rfl, rfl, rfl, rfl, trivial⟩ ?_
          refine lp_216c (p0 := p2) (N := n) (x := x) (k := k) (b := y1) (s := rI p0 73 (4 * x.toInt.toNat + k.toInt.toNat)) (T := drs p0 74 x.toInt.toNat k.toInt.toNat) (F := f.toInt) (w := q.2.2) hx0 hx7 hk1 (by omega) bt (by show (rI p2 74 _).toInt = (rI p0 74 _).toInt; rw [ep2, rI_o (by decide), hN.int (r := 74) rfl]) (by rw [ep2, rI_o (by decide), hN.int (r := 73) rfl]) (fun g => (dI_s hI hdb g bs bt).2.1) (fun m0 hm0 u f2 pe j1 j2 j3 j4 j5 => ?_) n (Nat.le_refl _) 0 f p2 (by decide) (by have h00 : (0 : Int32).toInt = 0 := (by decide); omega) (Or.inr (by decide)) (hNt.refl _ _) hOm_0 (fun i hi => by rw [ep2, rI_o (by decide), hrow i hi]; exact (iP_n (by have h00 : (0 : Int32).toInt = 0 := (by decide); omega)).symm) (iP_n (by decide)).symm
          refine hp_inc (L := fun z_ => [(3, .int z_), (5, .int u), (2, .int f2), (4, .int y1), (0, .ref 66), (1, .int x)]) (pc' := 146) rfl rfl rfl (fun _ => rfl) rfl ?_
          intro z2 hz2
          have ez2 := i_add hz2 (show k.toInt = k.toInt from rfl) (show (Int32.ofInt 1).toInt = 1 from by decide)
          refine hp_go (pc' := 37) rfl rfl rfl ?_
          refine hp_ls (ls' := [(3, .int z2), (2, .int f2), (4, .int y1), (5, .int u), (0, .ref 66), (1, .int x)]) rfl rfl ⟨rfl, rfl, rfl, rfl, rfl, rfl, trivial⟩ ?_
          have n3 : hNt [(79, 9999), (80, 9999)] p0 pe := hNt.trans hN (hNt.trans (by rw [ep2]; exact (hNt.refl _ _).w rfl) (j2.up (by decide)))
          have o3 : hOm p0 pe x.toInt.toNat := hOm_tr hO (hOm_tr (hOm_w (Or.inl rfl) ep2) j3)
          have f80 : (rI pe 80 x.toInt.toNat).toInt = 1 := by rw [j2.int (r := 80) rfl, ep2, rI_eq wp2 (by show _ < 7; omega)]; decide
          have hk2 : z2.toInt.toNat = k.toInt.toNat + 1 := by omega
          refine hp_le hm0 (ih (by omega) z2 f2 y1 u pe q.2.2 (by omega) (by omega) n3 o3 (Or.inr ⟨by rw [hk2]; exact dK_no c1 hdb (by omega), f80⟩) (fun i hi => ?_))
          rw [j4 i hi]; exact iP_n (by omega)
theorem lp_216d {ro : List (List Int32)} {d : Nat} {Q : Option Value → xH → Prop} {p0 : xH} {x f b u : Int32} {w : Int → Int} {N : Nat} (x0 : 0 ≤ x.toInt) (x7 : x.toInt < 7) (K : ∀ m : Nat, m ≤ N → ∀ (i9 : Int32) (p2 : xH), (hNt [(79, 9999)] p0 p2) → (hOm p0 p2 x.toInt.toNat) → (∀ i : Nat, i < 30 → (rI p2 79 (30 * x.toInt.toNat + i)).toInt = iP ((rI p0 80 x.toInt.toNat).toInt ≠ 0) (-1) (w i)) → hP ro m d (12, 6, 1, 0, k216) 210 [(3, .int i9), (2, .int f), (4, .int b), (5, .int u), (0, .ref 66), (1, .int x)] [] p2 Q) : ∀ (n : Nat) (hn : n ≤ N) (i9 : Int32) (p : xH), (0 ≤ i9.toInt) → (i9.toInt ≤ 30) → (hNt [(79, 9999)] p0 p) → (hOm p0 p x.toInt.toNat) → (∀ i : Nat, i < 30 → (rI p 79 (30 * x.toInt.toNat + i)).toInt = iP ((rI p0 80 x.toInt.toNat).toInt ≠ 0 ∧ (i : Int) < i9.toInt) (-1) (w i)) → hP ro n d (12, 6, 1, 0, k216) 177 [(3, .int i9), (2, .int f), (4, .int b), (5, .int u), (0, .ref 66), (1, .int x)] [] p Q := by
  intro n
  induction n with
  | zero => intros; exact hp_0
  | succ n ih =>
    intro hn i9 p hm1 hm3 hN hO hr
    refine hp_hw (fun wp => ?_)
    have t80 : (rI p 80 x.toInt.toNat).toInt = (rI p0 80 x.toInt.toNat).toInt := by rw [hN.int (r := 80) rfl]
    refine hp_s1 (pc' := 178) (st' := [.int i9]) rfl rfl rfl ?_
    refine hp_s (pc' := 180) (st' := [.int 30, .int i9]) rfl rfl rfl ?_
    refine hp_ic (pc' := 183) (t := 210) (a := i9.toInt) (b := 30) rfl rfl rfl rfl (by decide) (fun (h1 : 30 ≤ i9.toInt) => ?_) (fun (h2 : ¬ (30 ≤ i9.toInt)) => ?_)
    ·
      exact K n (by omega) _ p hN hO (fun i hi => by rw [hr i hi]; exact iP_e (by omega))
    ·
      refine hp_s (pc' := 184) (st' := [.ref 66]) rfl rfl rfl ?_
      refine hp_getr (k := 23) (w := .ref 80) (pc' := 187) rfl rfl rfl rfl rfl ?_
      refine hp_s (pc' := 188) (st' := [.int x, .ref 80]) rfl rfl rfl ?_
      refine hp_ld (t := 101) (v := (rI p 80 x.toInt.toNat)) rfl (.inr rfl) rfl rfl rfl ?_
      intro (g1a : 0 ≤ x.toInt) (g1b : x.toInt < 7)
      refine hp_if (pc' := 192) (t := 210) (a := (rI p 80 x.toInt.toNat).toInt) rfl rfl rfl rfl (fun (h3 : (rI p 80 x.toInt.toNat).toInt = 0) => ?_) (fun (h4 : ¬ ((rI p 80 x.toInt.toNat).toInt = 0)) => ?_)
      ·
        exact K n (by omega) _ p hN hO (fun i hi => by rw [hr i hi]; exact iP_e (by omega))
      ·
        refine hp_s (pc' := 193) (st' := [.ref 66]) rfl rfl rfl ?_
        refine hp_getr (k := 22) (w := .ref 79) (pc' := 196) rfl rfl rfl rfl rfl ?_
        refine hp_s (pc' := 198) (st' := [.int 30, .ref 79]) rfl rfl rfl ?_
        refine hp_s (pc' := 199) (st' := [.int x, .int 30, .ref 79]) rfl rfl rfl ?_
        refine hp_z (pc' := 200) (e := 30 * x) (st' := [.ref 79]) rfl rfl rfl ?_
        intro z1 hz1
        have ez1 := i_mul hz1 (show (30 : Int32).toInt = 30 from by decide) (show x.toInt = x.toInt from rfl)
        refine hp_s (pc' := 201) (st' := [.int i9, .int z1, .ref 79]) rfl rfl rfl ?_
        refine hp_z (pc' := 202) (e := z1 + i9) (st' := [.ref 79]) rfl rfl rfl ?_
        intro z2 hz2
        have ez2 := i_add hz2 (show z1.toInt = z1.toInt from rfl) (show i9.toInt = i9.toInt from rfl)
        refine hp_s (pc' := 203) (st' := [.int (-1), .int z2, .ref 79]) rfl rfl rfl ?_
        refine hp_st (t := 100) rfl (.inl rfl) rfl rfl ?_
        intro p1 wp1 (p1a : 0 ≤ z2.toInt) (p1b : z2.toInt < 210) ep1
        refine hp_inc (L := fun z_ => [(3, .int z_), (2, .int f), (4, .int b), (5, .int u), (0, .ref 66), (1, .int x)]) (pc' := 207) rfl rfl rfl (fun _ => rfl) rfl ?_
        intro z3 hz3
        have ez3 := i_add hz3 (show i9.toInt = i9.toInt from rfl) (show (Int32.ofInt 1).toInt = 1 from by decide)
        refine hp_go (pc' := 177) rfl rfl rfl ?_
        refine ih (by omega) z3 p1 (by omega) (by omega) (by rw [ep1]; exact hN.w rfl) (hOm_tr hO (hOm_79 (i := z2.toInt.toNat) (m := i9.toInt.toNat) (by omega) (by omega) ep1)) (fun i hi => ?_)
        rw [ep1, rI_w wp (by show _ < 210; omega)]
        by_cases g : i = i9.toInt.toNat
        · rw [if_pos (by omega)]; exact Eq.trans (by decide) (iP_y (by omega)).symm
        · rw [if_neg (by omega), hr i hi]; exact iP_e (by omega)
theorem s_plansOne {ro : List (List Int32)} {n d : Nat} {p : xH} {Q : Option Value → xH → Prop} (S : Nat) (A : Nat → Nat → Prop) (W : Nat → dS) (l : List Nat) {x : Int32} {xi : Int} (hx : x.toInt = xi) (pre0 : (rI p 66 6).toInt = (S : Int)) (pre1 : S ≤ 7) (pre2 : 0 ≤ xi) (pre3 : xi < 7) (pre4 : hLk A S xi.toNat (rI p 78 xi.toNat)) (pre5 : ∀ j, j < 32 → (bI (rI p 66 25) j = true ↔ j ∈ l)) (pre6 : ∀ j, j ∈ l → j < S → ∀ m : Nat, m < 30 → (rI p 79 (30 * j + m)).toInt = dw (W j) m) (pre7 : 0 ≤ (rI p 72 xi.toNat).toInt ∧ (rI p 72 xi.toNat).toInt ≤ 4) (pre8 : ∀ k, k < (dre p 72 xi.toNat) → 0 ≤ drs p 73 xi.toNat k ∧ drs p 73 xi.toNat k ≤ 4) (pre9 : ∀ k, k < (dre p 72 xi.toNat) → 1 ≤ drs p 74 xi.toNat k ∧ drs p 74 xi.toNat k ≤ 6) (k0 : ∀ p2 : xH, (hNt T_po p p2) → (hOm p p2 xi.toNat) → (hDm p2 xi.toNat (dK (dSh A S W l xi.toNat) (drs p 73 xi.toNat) (drs p 74 xi.toNat) (dre p 72 xi.toNat)) (drt p 72 74 xi.toNat)) → (rI p2 66 25 = rI p 66 25 ||| ((1 : Int32) <<< (x &&& 31))) → Q none p2) : hP ro n d (12, 6, 1, 0, k216) 0 (lv_args 0 [.ref 66, .int x]) [] p Q := by
  subst hx
  refine hp_id (ls := [(0, .ref 66), (1, .int x)]) ?_
  obtain ⟨pre7a, pre7b⟩ := pre7
  have pre7 : 0 ≤ (rI p 72 x.toInt.toNat).toInt ∧ (rI p 72 x.toInt.toNat).toInt ≤ 4 := ⟨pre7a, pre7b⟩
  refine hp_s (pc' := 1) (st' := [.int 0]) rfl rfl rfl ?_
  refine hp_s (pc' := 2) (ls' := [(2, .int 0), (0, .ref 66), (1, .int x)]) (st' := []) rfl rfl rfl ?_
  refine lp_216a (p0 := p) (N := n) (x := x) pre2 pre3 (fun m0 hm0 k pa j1 j2 => ?_) n (Nat.le_refl _) 0 p (by decide) (by decide) (hNt.refl _ _) (fun j => by rw [if_neg (by rw [i_ofz]; omega)])
  refine hp_s (pc' := 27) (st' := [.int 0]) rfl rfl rfl ?_
  refine hp_s (pc' := 28) (ls' := [(2, .int 0), (0, .ref 66), (1, .int x)]) (st' := []) rfl rfl rfl ?_
  refine hp_s (pc' := 29) (st' := [.ref 66]) rfl rfl rfl ?_
  refine hp_getr (k := 23) (w := .ref 80) (pc' := 32) rfl rfl rfl rfl rfl ?_
  refine hp_s (pc' := 33) (st' := [.int x, .ref 80]) rfl rfl rfl ?_
  refine hp_s (pc' := 34) (st' := [.int 0, .int x, .ref 80]) rfl rfl rfl ?_
  refine hp_st (t := 101) rfl (.inr rfl) rfl rfl ?_
  intro p1 wp1 (p1a : 0 ≤ x.toInt) (p1b : x.toInt < 7) ep1
  refine hp_s (pc' := 36) (st' := [.int 0]) rfl rfl rfl ?_
  refine hp_s (pc' := 37) (ls' := [(3, .int 0), (2, .int 0), (0, .ref 66), (1, .int x)]) (st' := []) rfl rfl rfl ?_
  refine hp_ls (ls' := [(3, .int 0), (2, .int 0), (4, .int 0), (5, .int 0), (0, .ref 66), (1, .int x)]) rfl rfl ⟨rfl, rfl, rfl, rfl, trivial⟩ ?_
  refine lp_216b (p0 := p) (N := m0) (S := S) (A := A) (W := W) (l := l) (x := x) pre0 pre1 pre2 pre3 pre4 pre5 pre6 pre7 pre8 pre9 (fun m1 hm1 k2 f b u pb w j3 j4 j5 j6 => ?_) m0 (Nat.le_refl _) 0 0 (0 : Int32) (0 : Int32) p1 (fun _ => -1) (by decide) (by have h00 : (0 : Int32).toInt = 0 := (by decide); omega) (by rw [ep1]; exact (hNt.w (j1.up (by decide)) rfl)) (hOm_tr (hOm_clr j1 j2) (hOm_w (Or.inl rfl) ep1)) (Or.inl ⟨(-1, 0, fun _ => -1), by rw [i_ofz]; rfl, by decide, rfl, by rw [ep1, rI_eq wp1 (by show _ < 7; omega)]; decide⟩) (fun i hi => by rw [ep1, rI_o (by decide), j2, if_pos (by omega)]; decide)
  refine hp_s (pc' := 150) (st' := [.ref 66]) rfl rfl rfl ?_
  refine hp_getr (k := 24) (w := .ref 81) (pc' := 153) rfl rfl rfl rfl rfl ?_
  refine hp_s (pc' := 154) (st' := [.int x, .ref 81]) rfl rfl rfl ?_
  refine hp_s (pc' := 155) (st' := [.ref 66, .int x, .ref 81]) rfl rfl rfl ?_
  refine hp_getr (k := 23) (w := .ref 80) (pc' := 158) rfl rfl rfl rfl rfl ?_
  refine hp_s (pc' := 159) (st' := [.int x, .ref 80, .int x, .ref 81]) rfl rfl rfl ?_
  refine hp_ld (t := 101) (v := (rI pb 80 x.toInt.toNat)) rfl (.inr rfl) rfl rfl rfl ?_
  intro (g1a : 0 ≤ x.toInt) (g1b : x.toInt < 7)
  refine hp_if (pc' := 163) (t := 167) (a := (rI pb 80 x.toInt.toNat).toInt) rfl rfl rfl rfl (fun (h1 : (rI pb 80 x.toInt.toNat).toInt = 0) => ?_) (fun (h2 : ¬ ((rI pb 80 x.toInt.toNat).toInt = 0)) => ?_)
  ·
    refine hp_s (pc' := 168) (st' := [.int f, .int x, .ref 81]) rfl rfl rfl ?_
    refine hp_s (pc' := 169) (st' := [.ref 66, .int f, .int x, .ref 81]) rfl rfl rfl ?_
    refine hp_s (pc' := 170) (st' := [.int x, .ref 66, .int f, .int x, .ref 81]) rfl rfl rfl ?_
    have t72 : (rI pb 72 x.toInt.toNat).toInt = (rI p 72 x.toInt.toNat).toInt := by rw [j3.int (r := 72) rfl]
    refine hp_cv (r := 66) (o := 12) (kd := 1) (as := [.int x]) (rest := [.int f, .int x, .ref 81]) (pc' := 173) rfl rfl rfl rfl rfl rfl rfl rfl rfl (fun d1 => ?_)
    refine s_minutesOfM (xi := x.toInt) rfl (by first | assumption | omega) (by first | assumption | omega) (by first | assumption | omega) (by first | assumption | omega) ?_
    refine hp_id (st := [.int (((hSum (fun j => rI pb 74 ((4 * x.toInt).toNat + j)) (rI pb 72 x.toInt.toNat).toInt.toNat))), .int f, .int x, .ref 81]) ?_
    refine hp_z (pc' := 174) (e := f - (((hSum (fun j => rI pb 74 ((4 * x.toInt).toNat + j)) (rI pb 72 x.toInt.toNat).toInt.toNat)))) (st' := [.int x, .ref 81]) rfl rfl rfl ?_
    intro z1 hz1
    have ez1 := i_sub hz1 (show f.toInt = f.toInt from rfl) (show (((hSum (fun j => rI pb 74 ((4 * x.toInt).toNat + j)) (rI pb 72 x.toInt.toNat).toInt.toNat))).toInt = (((hSum (fun j => rI pb 74 ((4 * x.toInt).toNat + j)) (rI pb 72 x.toInt.toNat).toInt.toNat))).toInt from rfl)
    refine hp_st (t := 100) rfl (.inl rfl) rfl rfl ?_
    intro p2 wp2 (p2a : 0 ≤ x.toInt) (p2b : x.toInt < 7) ep2
    refine hp_s (pc' := 176) (st' := [.int 0]) rfl rfl rfl ?_
    refine hp_s (pc' := 177) (ls' := [(3, .int 0), (2, .int f), (4, .int b), (5, .int u), (0, .ref 66), (1, .int x)]) (st' := []) rfl rfl rfl ?_
    refine lp_216d (p0 := p2) (N := m1) (x := x) (f := f) (b := b) (u := u) (w := w) pre2 pre3 (fun m2 hm2 m pd j7 j8 j9 => ?_) m1 (Nat.le_refl _) 0 p2 (by decide) (by decide) (hNt.refl _ _) hOm_0 (fun i hi => by rw [ep2, rI_o (by decide), j6 i hi]; exact (iP_n (by have h00 : (0 : Int32).toInt = 0 := (by decide); omega)).symm)
    refine hp_s (pc' := 211) (st' := [.ref 66]) rfl rfl rfl ?_
    refine hp_s (pc' := 212) (st' := [.ref 66, .ref 66]) rfl rfl rfl ?_
    refine hp_get (k := 25) (pc' := 215) (v := (rI pd 66 25)) rfl rfl rfl rfl rfl rfl ?_
    refine hp_s (pc' := 216) (st' := [.int 1, .int (rI pd 66 25), .ref 66]) rfl rfl rfl ?_
    refine hp_s (pc' := 217) (st' := [.int x, .int 1, .int (rI pd 66 25), .ref 66]) rfl rfl rfl ?_
    refine hp_z (pc' := 218) (e := 1 <<< (x &&& 31)) (st' := [.int (rI pd 66 25), .ref 66]) rfl rfl rfl ?_
    intro z2 hz2
    refine hp_z (pc' := 219) (e := (rI pd 66 25) ||| z2) (st' := [.ref 66]) rfl rfl rfl ?_
    intro z3 hz3
    refine hp_put (k := 25) (pc' := 222) rfl rfl rfl rfl rfl ?_
    intro p3 wp3 ep3
    refine hp_rv rfl rfl ?_
    have hx9 : x.toInt.toNat < 7 := by omega
    have n5 : hNt [(81, 9999)] pb p2 := by rw [ep2]; exact (hNt.refl _ _).w rfl
    have n6 : hNt T_po p p3 := hNt.trans (j3.up (by decide)) (hNt.trans (n5.up (by decide)) (hNt.trans (j7.up (by decide)) (by rw [ep3]; exact (hNt.refl _ _).w rfl)))
    have o : ∀ r j, r ≠ 66 → rI p3 r j = rI pd r j := fun r j a => by rw [ep3, rI_o a]
    have o6 : hOm p p3 x.toInt.toNat := hOm_e (hOm_tr j4 (hOm_tr (hOm_w (Or.inr rfl) ep2) j8)) (fun j => o 79 j (by decide)) (fun j => o 80 j (by decide)) (fun j => o 81 j (by decide))
    have m6 : rI p3 66 25 = rI p 66 25 ||| ((1 : Int32) <<< (x &&& 31)) := by rw [ep3, rI_eq wp3 (by decide), hz3, hz2, j7.int (r := 66) (k := 25) rfl, n5.int (r := 66) (k := 25) rfl, j3.int (r := 66) (k := 25) rfl]
    have g80 : rI p3 80 x.toInt.toNat = rI pb 80 x.toInt.toNat := by rw [o 80 _ (by decide), j7.int (r := 80) rfl, n5.int (r := 80) rfl]
    have g85 : rI p2 80 x.toInt.toNat = rI pb 80 x.toInt.toNat := n5.int (r := 80) rfl
    have g81 : rI p3 81 x.toInt.toNat = z1 := by rw [o 81 _ (by decide), j7.int (r := 81) rfl, ep2, rI_eq wp2 hx9]
    refine k0 p3 n6 o6 ?_ m6
    rcases j5 with ⟨q, c1, c2, c3, c4⟩ | ⟨c1, c2⟩
    · rw [c1]
      refine ⟨fun i hi => ?_, by rw [g80, c4]; rfl, ?_⟩
      · rw [o 79 _ (by decide), j9 i hi, g85, iP_n (by omega), c3]; rfl
      · rw [g81, hz1, show f = Int32.ofInt q.2.1 by rw [← c2, Int32.ofInt_toInt]]
        show _ = Int32.ofInt q.2.1 - _
        congr 1
        unfold drt
        rw [show ((x.toInt.toNat : Nat) : Int) = x.toInt by omega, j3.int (r := 72) rfl]
        exact hSum_eq (fun j _ => j3.int (r := 74) rfl)
    · exfalso; omega
  ·
    refine hp_s (pc' := 164) (st' := [.int 0, .int x, .ref 81]) rfl rfl rfl ?_
    refine hp_go (pc' := 174) rfl rfl rfl ?_
    refine hp_st (t := 100) rfl (.inl rfl) rfl rfl ?_
    intro p4 wp4 (p4a : 0 ≤ x.toInt) (p4b : x.toInt < 7) ep4
    refine hp_s (pc' := 176) (st' := [.int 0]) rfl rfl rfl ?_
    refine hp_s (pc' := 177) (ls' := [(3, .int 0), (2, .int f), (4, .int b), (5, .int u), (0, .ref 66), (1, .int x)]) (st' := []) rfl rfl rfl ?_
    refine lp_216d (p0 := p4) (N := m1) (x := x) (f := f) (b := b) (u := u) (w := w) pre2 pre3 (fun m2 hm2 m pd j7 j8 j9 => ?_) m1 (Nat.le_refl _) 0 p4 (by decide) (by decide) (hNt.refl _ _) hOm_0 (fun i hi => by rw [ep4, rI_o (by decide), j6 i hi]; exact (iP_n (by have h00 : (0 : Int32).toInt = 0 := (by decide); omega)).symm)
    refine hp_s (pc' := 211) (st' := [.ref 66]) rfl rfl rfl ?_
    refine hp_s (pc' := 212) (st' := [.ref 66, .ref 66]) rfl rfl rfl ?_
    refine hp_get (k := 25) (pc' := 215) (v := (rI pd 66 25)) rfl rfl rfl rfl rfl rfl ?_
    refine hp_s (pc' := 216) (st' := [.int 1, .int (rI pd 66 25), .ref 66]) rfl rfl rfl ?_
    refine hp_s (pc' := 217) (st' := [.int x, .int 1, .int (rI pd 66 25), .ref 66]) rfl rfl rfl ?_
    refine hp_z (pc' := 218) (e := 1 <<< (x &&& 31)) (st' := [.int (rI pd 66 25), .ref 66]) rfl rfl rfl ?_
    intro z4 hz4
    refine hp_z (pc' := 219) (e := (rI pd 66 25) ||| z4) (st' := [.ref 66]) rfl rfl rfl ?_
    intro z5 hz5
    refine hp_put (k := 25) (pc' := 222) rfl rfl rfl rfl rfl ?_
    intro p5 wp5 ep5
    refine hp_rv rfl rfl ?_
    have hx9 : x.toInt.toNat < 7 := by omega
    have n5 : hNt [(81, 9999)] pb p4 := by rw [ep4]; exact (hNt.refl _ _).w rfl
    have n6 : hNt T_po p p5 := hNt.trans (j3.up (by decide)) (hNt.trans (n5.up (by decide)) (hNt.trans (j7.up (by decide)) (by rw [ep5]; exact (hNt.refl _ _).w rfl)))
    have o : ∀ r j, r ≠ 66 → rI p5 r j = rI pd r j := fun r j a => by rw [ep5, rI_o a]
    have o6 : hOm p p5 x.toInt.toNat := hOm_e (hOm_tr j4 (hOm_tr (hOm_w (Or.inr rfl) ep4) j8)) (fun j => o 79 j (by decide)) (fun j => o 80 j (by decide)) (fun j => o 81 j (by decide))
    have m6 : rI p5 66 25 = rI p 66 25 ||| ((1 : Int32) <<< (x &&& 31)) := by rw [ep5, rI_eq wp5 (by decide), hz5, hz4, j7.int (r := 66) (k := 25) rfl, n5.int (r := 66) (k := 25) rfl, j3.int (r := 66) (k := 25) rfl]
    have g80 : rI p5 80 x.toInt.toNat = rI pb 80 x.toInt.toNat := by rw [o 80 _ (by decide), j7.int (r := 80) rfl, n5.int (r := 80) rfl]
    have g85 : rI p4 80 x.toInt.toNat = rI pb 80 x.toInt.toNat := n5.int (r := 80) rfl
    have g81 : rI p5 81 x.toInt.toNat = (0 : Int32) := by rw [o 81 _ (by decide), j7.int (r := 81) rfl, ep4, rI_eq wp4 hx9]
    refine k0 p5 n6 o6 ?_ m6
    rcases j5 with ⟨q, c1, c2, c3, c4⟩ | ⟨c1, c2⟩
    · exfalso; omega
    · rw [c1]
      refine ⟨fun i hi => ?_, by rw [g80, c2]; rfl, by rw [g81]; rfl⟩
      rw [o 79 _ (by decide), j9 i hi, g85, iP_y (by omega)]; rfl
