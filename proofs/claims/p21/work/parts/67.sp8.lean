/-! contracts of methods, walked -/
theorem rV_out {p : xH} {r k : Nat} {g : jG1} (h : hW p) (hg : jgc jGG r = some g) (hk : hgl g ≤ k) : rV p r k = .null := by
  obtain ⟨vs, h1, h2, -⟩ := hW_cell h hg
  unfold rV
  rw [h1]
  dsimp only
  rw [List.getD_eq_getElem?_getD, List.getElem?_eq_none (by omega)]
  rfl
/-- a row that is copied, to a place -/
def hCo (D S : Nat) (k : Nat) (p0 p : xH) : Prop := hOn D (fun j => if 0 ≤ j ∧ j < k then rV p0 S j else rV p0 D j) p0 p
theorem hCo_0 {D S : Nat} {p0 : xH} {k : Nat} (h : k = 0) : hCo D S k p0 p0 := (hOn.refl D p0).eq (fun j => by rw [if_neg (by omega)])
theorem hCo_s {D S k k' i : Nat} {p0 p : xH} {x : Int32} (h : hCo D S k p0 p) (hw : hW p) (hS : D ≠ S) (hi : i = k) (hk : k' = k + 1) (hL1 : k < hL D) (hx : rV p0 S k = .int x) : hCo D S k' p0 (wV p D i (.int x)) := by
  subst hi
  exact (hOn.w h hw hL1).eq (fun j => if_fillf (f := fun j => rV p0 S j) rfl hk (Nat.zero_le _) hx.symm)
theorem hCo_all {D S k : Nat} {p0 p : xH} {gD gS : jG1} (h : hCo D S k p0 p) (hw : hW p0) (hD : jgc jGG D = some gD) (hS : jgc jGG S = some gS) (e1 : hgl gD = k) (e2 : hgl gS = k) (j : Nat) : rV p D j = rV p0 S j := by
  rw [h.2 j]
  dsimp only
  by_cases z : j < k
  · rw [if_pos ⟨Nat.zero_le _, z⟩]
  · rw [if_neg (by omega), rV_out hw hD (by omega), rV_out hw hS (by omega)]
/-- three rows that are copied side by side -/
def hC3 (D S : Nat) (k : Nat) (p0 p : xH) : Prop := hNt [(D + 3, 9999), (D + 4, 9999), (D + 5, 9999)] p0 p ∧ (∀ j, rV p (D + 3) j = if 0 ≤ j ∧ j < k then rV p0 (S + 3) j else rV p0 (D + 3) j) ∧ (∀ j, rV p (D + 4) j = if 0 ≤ j ∧ j < k then rV p0 (S + 4) j else rV p0 (D + 4) j) ∧ ∀ j, rV p (D + 5) j = if 0 ≤ j ∧ j < k then rV p0 (S + 5) j else rV p0 (D + 5) j
/-- a scene that is copied -/
def hCs (D S : Nat) (p0 p : xH) : Prop := hNt [(D, 5), (D + 1, 9999), (D + 2, 9999), (D + 3, 9999), (D + 4, 9999), (D + 5, 9999)] p0 p ∧ rI p D 5 = rI p0 S 5 ∧ (∀ j, rV p (D + 1) j = rV p0 (S + 1) j) ∧ (∀ j, rV p (D + 2) j = rV p0 (S + 2) j) ∧ (∀ j, rV p (D + 3) j = rV p0 (S + 3) j) ∧ (∀ j, rV p (D + 4) j = rV p0 (S + 4) j) ∧ ∀ j, rV p (D + 5) j = rV p0 (S + 5) j
theorem if_all {n : Nat} {f g : Nat → Value} {j : Nat} (h : n ≤ j → f j = g j) : (if 0 ≤ j ∧ j < n then f j else g j) = f j := by
  by_cases z : j < n
  · rw [if_pos ⟨Nat.zero_le _, z⟩]
  · rw [if_neg (by omega), h (by omega)]
theorem lp_58a_7 {ro : List (List Int32)} {d : Nat} {Q : Option Value → xH → Prop} {p0 : xH} (K : ∀ (p2 : xH) (k : Int32), hCo 8 2 7 p0 p2 → ∀ n, hP ro n d (5, 3, 1, 0, k58) 26 [(2, .int k), (0, .ref 7), (1, .ref 1)] [] p2 Q) : ∀ (n : Nat) (k : Int32) (p : xH), (0 ≤ k.toInt) → (k.toInt ≤ 7) → (hCo 8 2 k.toInt.toNat p0 p) → hP ro n d (5, 3, 1, 0, k58) 2 [(2, .int k), (0, .ref 7), (1, .ref 1)] [] p Q := by
  intro n
  induction n with
  | zero => intros; exact hp_0
  | succ n ih =>
    intro k p h1 h2 hO
    refine hp_hw (fun wp => ?_)
    refine hp_s1 (pc' := 3) (st' := [.int k]) rfl rfl rfl ?_
    refine hp_s (pc' := 5) (st' := [.int 7, .int k]) rfl rfl rfl ?_
    refine hp_ic (pc' := 8) (t := 26) (a := k.toInt) (b := 7) rfl rfl rfl rfl (by decide) (fun (h1 : 7 ≤ k.toInt) => ?_) (fun (h2 : ¬ (7 ≤ k.toInt)) => ?_)
    ·
      exact K _ _ (show hCo 8 2 7 _ _ from by rw [show (7 : Nat) = k.toInt.toNat by omega]; exact hO) n
    ·
      refine hp_s (pc' := 9) (st' := [.ref 7]) rfl rfl rfl ?_
      refine hp_getr (k := 0) (w := .ref 8) (pc' := 12) rfl rfl rfl rfl rfl ?_
      refine hp_s (pc' := 13) (st' := [.int k, .ref 8]) rfl rfl rfl ?_
      refine hp_s (pc' := 14) (st' := [.ref 1, .int k, .ref 8]) rfl rfl rfl ?_
      refine hp_getr (k := 0) (w := .ref 2) (pc' := 17) rfl rfl rfl rfl rfl ?_
      refine hp_s (pc' := 18) (st' := [.int k, .ref 2, .int k, .ref 8]) rfl rfl rfl ?_
      refine hp_ld (t := 100) (v := (rI p 2 k.toInt.toNat)) rfl (.inl rfl) rfl rfl rfl ?_
      intro (g1a : 0 ≤ k.toInt) (g1b : k.toInt < 7)
      refine hp_st (t := 100) rfl (.inl rfl) rfl rfl ?_
      intro p1 wp1 (p1a : 0 ≤ k.toInt) (p1b : k.toInt < 7) ep1
      refine hp_inc (L := fun z => [(2, .int z), (0, .ref 7), (1, .ref 1)]) (pc' := 23) rfl rfl rfl (fun _ => rfl) rfl ?_
      intro z1 hz1
      have ez1 := i_add hz1 (show k.toInt = k.toInt from rfl) (show (Int32.ofInt 1).toInt = 1 from by decide)
      refine hp_go (pc' := 2) rfl rfl rfl ?_
      refine ih _ _ (by omega) (by omega) ?_
      rw [ep1]
      exact hCo_s hO wp1 (by decide) rfl (by omega) (by show _ < 7; omega) (by rw [← hO.1 2 _ (by decide)]; exact rV_int wp (r := 2) rfl (by decide) (by show _ < 7; omega))
theorem lp_58b_7 {ro : List (List Int32)} {d : Nat} {Q : Option Value → xH → Prop} {p0 : xH} (K : ∀ (p2 : xH) (k : Int32), hCo 9 3 210 p0 p2 → ∀ n, hP ro n d (5, 3, 1, 0, k58) 53 [(2, .int k), (0, .ref 7), (1, .ref 1)] [] p2 Q) : ∀ (n : Nat) (k : Int32) (p : xH), (0 ≤ k.toInt) → (k.toInt ≤ 210) → (hCo 9 3 k.toInt.toNat p0 p) → hP ro n d (5, 3, 1, 0, k58) 28 [(2, .int k), (0, .ref 7), (1, .ref 1)] [] p Q := by
  intro n
  induction n with
  | zero => intros; exact hp_0
  | succ n ih =>
    intro k p h1 h2 hO
    refine hp_hw (fun wp => ?_)
    refine hp_s1 (pc' := 29) (st' := [.int k]) rfl rfl rfl ?_
    refine hp_s (pc' := 32) (st' := [.int 210, .int k]) rfl rfl rfl ?_
    refine hp_ic (pc' := 35) (t := 53) (a := k.toInt) (b := 210) rfl rfl rfl rfl (by decide) (fun (h1 : 210 ≤ k.toInt) => ?_) (fun (h2 : ¬ (210 ≤ k.toInt)) => ?_)
    ·
      exact K _ _ (show hCo 9 3 210 _ _ from by rw [show (210 : Nat) = k.toInt.toNat by omega]; exact hO) n
    ·
      refine hp_s (pc' := 36) (st' := [.ref 7]) rfl rfl rfl ?_
      refine hp_getr (k := 1) (w := .ref 9) (pc' := 39) rfl rfl rfl rfl rfl ?_
      refine hp_s (pc' := 40) (st' := [.int k, .ref 9]) rfl rfl rfl ?_
      refine hp_s (pc' := 41) (st' := [.ref 1, .int k, .ref 9]) rfl rfl rfl ?_
      refine hp_getr (k := 1) (w := .ref 3) (pc' := 44) rfl rfl rfl rfl rfl ?_
      refine hp_s (pc' := 45) (st' := [.int k, .ref 3, .int k, .ref 9]) rfl rfl rfl ?_
      refine hp_ld (t := 100) (v := (rI p 3 k.toInt.toNat)) rfl (.inl rfl) rfl rfl rfl ?_
      intro (g1a : 0 ≤ k.toInt) (g1b : k.toInt < 210)
      refine hp_st (t := 100) rfl (.inl rfl) rfl rfl ?_
      intro p1 wp1 (p1a : 0 ≤ k.toInt) (p1b : k.toInt < 210) ep1
      refine hp_inc (L := fun z => [(2, .int z), (0, .ref 7), (1, .ref 1)]) (pc' := 50) rfl rfl rfl (fun _ => rfl) rfl ?_
      intro z1 hz1
      have ez1 := i_add hz1 (show k.toInt = k.toInt from rfl) (show (Int32.ofInt 1).toInt = 1 from by decide)
      refine hp_go (pc' := 28) rfl rfl rfl ?_
      refine ih _ _ (by omega) (by omega) ?_
      rw [ep1]
      exact hCo_s hO wp1 (by decide) rfl (by omega) (by show _ < 210; omega) (by rw [← hO.1 3 _ (by decide)]; exact rV_int wp (r := 3) rfl (by decide) (by show _ < 210; omega))
theorem lp_58c_7 {ro : List (List Int32)} {d : Nat} {Q : Option Value → xH → Prop} {p0 : xH} (K : ∀ (p2 : xH) (k : Int32), hC3 7 1 10 p0 p2 → ∀ n, hP ro n d (5, 3, 1, 0, k58) 103 [(2, .int k), (0, .ref 7), (1, .ref 1)] [] p2 Q) : ∀ (n : Nat) (k : Int32) (p : xH), (0 ≤ k.toInt) → (k.toInt ≤ 10) → (hC3 7 1 k.toInt.toNat p0 p) → hP ro n d (5, 3, 1, 0, k58) 55 [(2, .int k), (0, .ref 7), (1, .ref 1)] [] p Q := by
  intro n
  induction n with
  | zero => intros; exact hp_0
  | succ n ih =>
    intro k p h1 h2 hO
    refine hp_hw (fun wp => ?_)
    refine hp_s1 (pc' := 56) (st' := [.int k]) rfl rfl rfl ?_
    refine hp_s (pc' := 58) (st' := [.int 10, .int k]) rfl rfl rfl ?_
    refine hp_ic (pc' := 61) (t := 103) (a := k.toInt) (b := 10) rfl rfl rfl rfl (by decide) (fun (h1 : 10 ≤ k.toInt) => ?_) (fun (h2 : ¬ (10 ≤ k.toInt)) => ?_)
    ·
      exact K _ _ (by rw [show (10 : Nat) = k.toInt.toNat by omega]; exact hO) n
    ·
      refine hp_s (pc' := 62) (st' := [.ref 7]) rfl rfl rfl ?_
      refine hp_getr (k := 2) (w := .ref 10) (pc' := 65) rfl rfl rfl rfl rfl ?_
      refine hp_s (pc' := 66) (st' := [.int k, .ref 10]) rfl rfl rfl ?_
      refine hp_s (pc' := 67) (st' := [.ref 1, .int k, .ref 10]) rfl rfl rfl ?_
      refine hp_getr (k := 2) (w := .ref 4) (pc' := 70) rfl rfl rfl rfl rfl ?_
      refine hp_s (pc' := 71) (st' := [.int k, .ref 4, .int k, .ref 10]) rfl rfl rfl ?_
      refine hp_ld (t := 100) (v := (rI p 4 k.toInt.toNat)) rfl (.inl rfl) rfl rfl rfl ?_
      intro (g1a : 0 ≤ k.toInt) (g1b : k.toInt < 10)
      refine hp_st (t := 100) rfl (.inl rfl) rfl rfl ?_
      intro p1 wp1 (p1a : 0 ≤ k.toInt) (p1b : k.toInt < 10) ep1
      refine hp_s (pc' := 74) (st' := [.ref 7]) rfl rfl rfl ?_
      refine hp_getr (k := 3) (w := .ref 11) (pc' := 77) rfl rfl rfl rfl rfl ?_
      refine hp_s (pc' := 78) (st' := [.int k, .ref 11]) rfl rfl rfl ?_
      refine hp_s (pc' := 79) (st' := [.ref 1, .int k, .ref 11]) rfl rfl rfl ?_
      refine hp_getr (k := 3) (w := .ref 5) (pc' := 82) rfl rfl rfl rfl rfl ?_
      refine hp_s (pc' := 83) (st' := [.int k, .ref 5, .int k, .ref 11]) rfl rfl rfl ?_
      refine hp_ld (t := 100) (v := (rI p 5 k.toInt.toNat)) rfl (.inl rfl) rfl rfl (by rw [ep1, rI_o (by decide)]) ?_
      intro (g2a : 0 ≤ k.toInt) (g2b : k.toInt < 10)
      refine hp_st (t := 100) rfl (.inl rfl) rfl rfl ?_
      intro p2 wp2 (p2a : 0 ≤ k.toInt) (p2b : k.toInt < 10) ep2
      refine hp_s (pc' := 86) (st' := [.ref 7]) rfl rfl rfl ?_
      refine hp_getr (k := 4) (w := .ref 12) (pc' := 89) rfl rfl rfl rfl rfl ?_
      refine hp_s (pc' := 90) (st' := [.int k, .ref 12]) rfl rfl rfl ?_
      refine hp_s (pc' := 91) (st' := [.ref 1, .int k, .ref 12]) rfl rfl rfl ?_
      refine hp_getr (k := 4) (w := .ref 6) (pc' := 94) rfl rfl rfl rfl rfl ?_
      refine hp_s (pc' := 95) (st' := [.int k, .ref 6, .int k, .ref 12]) rfl rfl rfl ?_
      refine hp_ld (t := 100) (v := (rI p 6 k.toInt.toNat)) rfl (.inl rfl) rfl rfl (by rw [ep2, rI_o (by decide), ep1, rI_o (by decide)]) ?_
      intro (g3a : 0 ≤ k.toInt) (g3b : k.toInt < 10)
      refine hp_st (t := 100) rfl (.inl rfl) rfl rfl ?_
      intro p3 wp3 (p3a : 0 ≤ k.toInt) (p3b : k.toInt < 10) ep3
      refine hp_inc (L := fun z => [(2, .int z), (0, .ref 7), (1, .ref 1)]) (pc' := 100) rfl rfl rfl (fun _ => rfl) rfl ?_
      intro z1 hz1
      have ez1 := i_add hz1 (show k.toInt = k.toInt from rfl) (show (Int32.ofInt 1).toInt = 1 from by decide)
      refine hp_go (pc' := 55) rfl rfl rfl ?_
      obtain ⟨n1, r1, r2, r3⟩ := hO
      refine ih _ _ (by omega) (by omega) ⟨by rw [ep3, ep2, ep1]; exact ((n1.w rfl).w rfl).w rfl, fun j => ?_, fun j => ?_, fun j => ?_⟩
      · show rV p3 10 j = if 0 ≤ j ∧ j < _ then rV p0 4 j else rV p0 10 j
        rw [ep3, rV_ne (fun z => absurd z (by decide)), ep2, rV_ne (fun z => absurd z (by decide)), ep1, rV_w wp1 (by show _ < 10; omega)]
        rw [show rV p 10 j = _ from r1 j]
        exact if_fillf (f := fun j => rV p0 4 j) rfl (by omega) (Nat.zero_le _) (by rw [show rV p0 4 k.toInt.toNat = rV p 4 k.toInt.toNat from (n1 4 _ rfl).symm]; exact (rV_int wp (r := 4) rfl (by decide) (by show _ < 10; omega)).symm)
      · show rV p3 11 j = if 0 ≤ j ∧ j < _ then rV p0 5 j else rV p0 11 j
        rw [ep3, rV_ne (fun z => absurd z (by decide)), ep2, rV_w wp2 (by show _ < 10; omega)]
        rw [ep1, rV_ne (fun z => absurd z (by decide)), show rV p 11 j = _ from r2 j]
        exact if_fillf (f := fun j => rV p0 5 j) rfl (by omega) (Nat.zero_le _) (by rw [show rV p0 5 k.toInt.toNat = rV p 5 k.toInt.toNat from (n1 5 _ rfl).symm]; exact (rV_int wp (r := 5) rfl (by decide) (by show _ < 10; omega)).symm)
      · show rV p3 12 j = if 0 ≤ j ∧ j < _ then rV p0 6 j else rV p0 12 j
        rw [ep3, rV_w wp3 (by show _ < 10; omega)]
        rw [ep2, rV_ne (fun z => absurd z (by decide)), ep1, rV_ne (fun z => absurd z (by decide)), show rV p 12 j = _ from r3 j]
        exact if_fillf (f := fun j => rV p0 6 j) rfl (by omega) (Nat.zero_le _) (by rw [show rV p0 6 k.toInt.toNat = rV p 6 k.toInt.toNat from (n1 6 _ rfl).symm]; exact (rV_int wp (r := 6) rfl (by decide) (by show _ < 10; omega)).symm)
theorem s_copy7 {ro : List (List Int32)} {n d : Nat} {p : xH} {Q : Option Value → xH → Prop}   (k0 : ∀ p2 : xH, (hCs 7 1 p p2) → Q none p2) : hP ro n d (5, 3, 1, 0, k58) 0 (lv_args 0 [.ref 7, .ref 1]) [] p Q := by
  refine hp_id (ls := [(0, .ref 7), (1, .ref 1)]) ?_
  refine hp_s (pc' := 1) (st' := [.int 0]) rfl rfl rfl ?_
  refine hp_s (pc' := 2) (ls' := [(2, .int 0), (0, .ref 7), (1, .ref 1)]) (st' := []) rfl rfl rfl ?_
  refine hp_hw (fun wp => ?_)
  refine lp_58a_7 (fun pA kA oA nA => ?_) n 0 _ (by decide) (by decide) (hCo_0 (by decide))
  refine hp_s (pc' := 27) (st' := [.int 0]) rfl rfl rfl ?_
  refine hp_s (pc' := 28) (ls' := [(2, .int 0), (0, .ref 7), (1, .ref 1)]) (st' := []) rfl rfl rfl ?_
  refine hp_hw (fun wpA => ?_)
  refine lp_58b_7 (fun pB kB oB nB => ?_) nA 0 _ (by decide) (by decide) (hCo_0 (by decide))
  refine hp_s (pc' := 54) (st' := [.int 0]) rfl rfl rfl ?_
  refine hp_s (pc' := 55) (ls' := [(2, .int 0), (0, .ref 7), (1, .ref 1)]) (st' := []) rfl rfl rfl ?_
  refine hp_hw (fun wpB => ?_)
  refine lp_58c_7 (fun pC kC oC nC => ?_) nB 0 _ (by decide) (by decide) ⟨hNt.refl _ _, fun j => by rw [if_neg (by have h00 : (0 : Int32).toInt = 0 := (by decide); omega)], fun j => by rw [if_neg (by have h00 : (0 : Int32).toInt = 0 := (by decide); omega)], fun j => by rw [if_neg (by have h00 : (0 : Int32).toInt = 0 := (by decide); omega)]⟩
  obtain ⟨oC0, oC1, oC2, oC3⟩ := oC
  refine hp_s (pc' := 104) (st' := [.ref 7]) rfl rfl rfl ?_
  refine hp_s (pc' := 105) (st' := [.ref 1, .ref 7]) rfl rfl rfl ?_
  refine hp_get (k := 5) (pc' := 108) (v := (rI pC 1 5)) rfl rfl rfl rfl rfl rfl ?_
  refine hp_put (k := 5) (pc' := 111) rfl rfl rfl rfl rfl ?_
  intro p1 wp1 ep1
  refine hp_rv rfl rfl ?_
  refine k0 _ ⟨?_, ?_, fun j => ?_, fun j => ?_, fun j => ?_, fun j => ?_, fun j => ?_⟩
  · rw [ep1]; exact (((((hNt.refl _ p).on oA (fun _ => rfl)).on oB (fun _ => rfl)).trans (oC0.up (by decide))).w rfl)
  · rw [ep1, rI_eq wp1 (by decide), oC0.int rfl, oB.int (by decide), oA.int (by decide)]
  · show rV p1 8 j = rV p 2 j
    rw [ep1, rV_ne (fun z => absurd z (by decide)), show rV pC 8 j = rV pB 8 j from oC0 _ _ rfl, oB.1 8 j (by decide)]; exact hCo_all oA wp rfl rfl rfl rfl j
  · show rV p1 9 j = rV p 3 j
    rw [ep1, rV_ne (fun z => absurd z (by decide)), show rV pC 9 j = rV pB 9 j from oC0 _ _ rfl, ← oA.1 3 j (by decide)]; exact hCo_all oB wpA rfl rfl rfl rfl j
  · show rV p1 10 j = rV p 4 j
    rw [ep1, rV_ne (fun z => absurd z (by decide)), show rV pC 10 j = _ from oC1 j]
    refine (if_all (f := fun j => rV pB 4 j) (fun z => (rV_out wpB (r := 4) rfl z).trans (rV_out wpB (r := 10) rfl z).symm)).trans ?_
    show rV pB 4 j = rV p 4 j
    rw [oB.1 4 j (by decide), oA.1 4 j (by decide)]
  · show rV p1 11 j = rV p 5 j
    rw [ep1, rV_ne (fun z => absurd z (by decide)), show rV pC 11 j = _ from oC2 j]
    refine (if_all (f := fun j => rV pB 5 j) (fun z => (rV_out wpB (r := 5) rfl z).trans (rV_out wpB (r := 11) rfl z).symm)).trans ?_
    show rV pB 5 j = rV p 5 j
    rw [oB.1 5 j (by decide), oA.1 5 j (by decide)]
  · show rV p1 12 j = rV p 6 j
    rw [ep1, rV_ne (fun z => absurd z (by decide)), show rV pC 12 j = _ from oC3 j]
    refine (if_all (f := fun j => rV pB 6 j) (fun z => (rV_out wpB (r := 6) rfl z).trans (rV_out wpB (r := 12) rfl z).symm)).trans ?_
    show rV pB 6 j = rV p 6 j
    rw [oB.1 6 j (by decide), oA.1 6 j (by decide)]
theorem lp_58a_1 {ro : List (List Int32)} {d : Nat} {Q : Option Value → xH → Prop} {p0 : xH} (K : ∀ (p2 : xH) (k : Int32), hCo 2 8 7 p0 p2 → ∀ n, hP ro n d (5, 3, 1, 0, k58) 26 [(2, .int k), (0, .ref 1), (1, .ref 7)] [] p2 Q) : ∀ (n : Nat) (k : Int32) (p : xH), (0 ≤ k.toInt) → (k.toInt ≤ 7) → (hCo 2 8 k.toInt.toNat p0 p) → hP ro n d (5, 3, 1, 0, k58) 2 [(2, .int k), (0, .ref 1), (1, .ref 7)] [] p Q := by
  intro n
  induction n with
  | zero => intros; exact hp_0
  | succ n ih =>
    intro k p h1 h2 hO
    refine hp_hw (fun wp => ?_)
    refine hp_s1 (pc' := 3) (st' := [.int k]) rfl rfl rfl ?_
    refine hp_s (pc' := 5) (st' := [.int 7, .int k]) rfl rfl rfl ?_
    refine hp_ic (pc' := 8) (t := 26) (a := k.toInt) (b := 7) rfl rfl rfl rfl (by decide) (fun (h1 : 7 ≤ k.toInt) => ?_) (fun (h2 : ¬ (7 ≤ k.toInt)) => ?_)
    ·
      exact K _ _ (show hCo 2 8 7 _ _ from by rw [show (7 : Nat) = k.toInt.toNat by omega]; exact hO) n
    ·
      refine hp_s (pc' := 9) (st' := [.ref 1]) rfl rfl rfl ?_
      refine hp_getr (k := 0) (w := .ref 2) (pc' := 12) rfl rfl rfl rfl rfl ?_
      refine hp_s (pc' := 13) (st' := [.int k, .ref 2]) rfl rfl rfl ?_
      refine hp_s (pc' := 14) (st' := [.ref 7, .int k, .ref 2]) rfl rfl rfl ?_
      refine hp_getr (k := 0) (w := .ref 8) (pc' := 17) rfl rfl rfl rfl rfl ?_
      refine hp_s (pc' := 18) (st' := [.int k, .ref 8, .int k, .ref 2]) rfl rfl rfl ?_
      refine hp_ld (t := 100) (v := (rI p 8 k.toInt.toNat)) rfl (.inl rfl) rfl rfl rfl ?_
      intro (g1a : 0 ≤ k.toInt) (g1b : k.toInt < 7)
      refine hp_st (t := 100) rfl (.inl rfl) rfl rfl ?_
      intro p1 wp1 (p1a : 0 ≤ k.toInt) (p1b : k.toInt < 7) ep1
      refine hp_inc (L := fun z => [(2, .int z), (0, .ref 1), (1, .ref 7)]) (pc' := 23) rfl rfl rfl (fun _ => rfl) rfl ?_
      intro z1 hz1
      have ez1 := i_add hz1 (show k.toInt = k.toInt from rfl) (show (Int32.ofInt 1).toInt = 1 from by decide)
      refine hp_go (pc' := 2) rfl rfl rfl ?_
      refine ih _ _ (by omega) (by omega) ?_
      rw [ep1]
      exact hCo_s hO wp1 (by decide) rfl (by omega) (by show _ < 7; omega) (by rw [← hO.1 8 _ (by decide)]; exact rV_int wp (r := 8) rfl (by decide) (by show _ < 7; omega))
theorem lp_58b_1 {ro : List (List Int32)} {d : Nat} {Q : Option Value → xH → Prop} {p0 : xH} (K : ∀ (p2 : xH) (k : Int32), hCo 3 9 210 p0 p2 → ∀ n, hP ro n d (5, 3, 1, 0, k58) 53 [(2, .int k), (0, .ref 1), (1, .ref 7)] [] p2 Q) : ∀ (n : Nat) (k : Int32) (p : xH), (0 ≤ k.toInt) → (k.toInt ≤ 210) → (hCo 3 9 k.toInt.toNat p0 p) → hP ro n d (5, 3, 1, 0, k58) 28 [(2, .int k), (0, .ref 1), (1, .ref 7)] [] p Q := by
  intro n
  induction n with
  | zero => intros; exact hp_0
  | succ n ih =>
    intro k p h1 h2 hO
    refine hp_hw (fun wp => ?_)
    refine hp_s1 (pc' := 29) (st' := [.int k]) rfl rfl rfl ?_
    refine hp_s (pc' := 32) (st' := [.int 210, .int k]) rfl rfl rfl ?_
    refine hp_ic (pc' := 35) (t := 53) (a := k.toInt) (b := 210) rfl rfl rfl rfl (by decide) (fun (h1 : 210 ≤ k.toInt) => ?_) (fun (h2 : ¬ (210 ≤ k.toInt)) => ?_)
    ·
      exact K _ _ (show hCo 3 9 210 _ _ from by rw [show (210 : Nat) = k.toInt.toNat by omega]; exact hO) n
    ·
      refine hp_s (pc' := 36) (st' := [.ref 1]) rfl rfl rfl ?_
      refine hp_getr (k := 1) (w := .ref 3) (pc' := 39) rfl rfl rfl rfl rfl ?_
      refine hp_s (pc' := 40) (st' := [.int k, .ref 3]) rfl rfl rfl ?_
      refine hp_s (pc' := 41) (st' := [.ref 7, .int k, .ref 3]) rfl rfl rfl ?_
      refine hp_getr (k := 1) (w := .ref 9) (pc' := 44) rfl rfl rfl rfl rfl ?_
      refine hp_s (pc' := 45) (st' := [.int k, .ref 9, .int k, .ref 3]) rfl rfl rfl ?_
      refine hp_ld (t := 100) (v := (rI p 9 k.toInt.toNat)) rfl (.inl rfl) rfl rfl rfl ?_
      intro (g1a : 0 ≤ k.toInt) (g1b : k.toInt < 210)
      refine hp_st (t := 100) rfl (.inl rfl) rfl rfl ?_
      intro p1 wp1 (p1a : 0 ≤ k.toInt) (p1b : k.toInt < 210) ep1
      refine hp_inc (L := fun z => [(2, .int z), (0, .ref 1), (1, .ref 7)]) (pc' := 50) rfl rfl rfl (fun _ => rfl) rfl ?_
      intro z1 hz1
      have ez1 := i_add hz1 (show k.toInt = k.toInt from rfl) (show (Int32.ofInt 1).toInt = 1 from by decide)
      refine hp_go (pc' := 28) rfl rfl rfl ?_
      refine ih _ _ (by omega) (by omega) ?_
      rw [ep1]
      exact hCo_s hO wp1 (by decide) rfl (by omega) (by show _ < 210; omega) (by rw [← hO.1 9 _ (by decide)]; exact rV_int wp (r := 9) rfl (by decide) (by show _ < 210; omega))
theorem lp_58c_1 {ro : List (List Int32)} {d : Nat} {Q : Option Value → xH → Prop} {p0 : xH} (K : ∀ (p2 : xH) (k : Int32), hC3 1 7 10 p0 p2 → ∀ n, hP ro n d (5, 3, 1, 0, k58) 103 [(2, .int k), (0, .ref 1), (1, .ref 7)] [] p2 Q) : ∀ (n : Nat) (k : Int32) (p : xH), (0 ≤ k.toInt) → (k.toInt ≤ 10) → (hC3 1 7 k.toInt.toNat p0 p) → hP ro n d (5, 3, 1, 0, k58) 55 [(2, .int k), (0, .ref 1), (1, .ref 7)] [] p Q := by
  intro n
  induction n with
  | zero => intros; exact hp_0
  | succ n ih =>
    intro k p h1 h2 hO
    refine hp_hw (fun wp => ?_)
    refine hp_s1 (pc' := 56) (st' := [.int k]) rfl rfl rfl ?_
    refine hp_s (pc' := 58) (st' := [.int 10, .int k]) rfl rfl rfl ?_
    refine hp_ic (pc' := 61) (t := 103) (a := k.toInt) (b := 10) rfl rfl rfl rfl (by decide) (fun (h1 : 10 ≤ k.toInt) => ?_) (fun (h2 : ¬ (10 ≤ k.toInt)) => ?_)
    ·
      exact K _ _ (by rw [show (10 : Nat) = k.toInt.toNat by omega]; exact hO) n
    ·
      refine hp_s (pc' := 62) (st' := [.ref 1]) rfl rfl rfl ?_
      refine hp_getr (k := 2) (w := .ref 4) (pc' := 65) rfl rfl rfl rfl rfl ?_
      refine hp_s (pc' := 66) (st' := [.int k, .ref 4]) rfl rfl rfl ?_
      refine hp_s (pc' := 67) (st' := [.ref 7, .int k, .ref 4]) rfl rfl rfl ?_
      refine hp_getr (k := 2) (w := .ref 10) (pc' := 70) rfl rfl rfl rfl rfl ?_
      refine hp_s (pc' := 71) (st' := [.int k, .ref 10, .int k, .ref 4]) rfl rfl rfl ?_
      refine hp_ld (t := 100) (v := (rI p 10 k.toInt.toNat)) rfl (.inl rfl) rfl rfl rfl ?_
      intro (g1a : 0 ≤ k.toInt) (g1b : k.toInt < 10)
      refine hp_st (t := 100) rfl (.inl rfl) rfl rfl ?_
      intro p1 wp1 (p1a : 0 ≤ k.toInt) (p1b : k.toInt < 10) ep1
      refine hp_s (pc' := 74) (st' := [.ref 1]) rfl rfl rfl ?_
      refine hp_getr (k := 3) (w := .ref 5) (pc' := 77) rfl rfl rfl rfl rfl ?_
      refine hp_s (pc' := 78) (st' := [.int k, .ref 5]) rfl rfl rfl ?_
      refine hp_s (pc' := 79) (st' := [.ref 7, .int k, .ref 5]) rfl rfl rfl ?_
      refine hp_getr (k := 3) (w := .ref 11) (pc' := 82) rfl rfl rfl rfl rfl ?_
      refine hp_s (pc' := 83) (st' := [.int k, .ref 11, .int k, .ref 5]) rfl rfl rfl ?_
      refine hp_ld (t := 100) (v := (rI p 11 k.toInt.toNat)) rfl (.inl rfl) rfl rfl (by rw [ep1, rI_o (by decide)]) ?_
      intro (g2a : 0 ≤ k.toInt) (g2b : k.toInt < 10)
      refine hp_st (t := 100) rfl (.inl rfl) rfl rfl ?_
      intro p2 wp2 (p2a : 0 ≤ k.toInt) (p2b : k.toInt < 10) ep2
      refine hp_s (pc' := 86) (st' := [.ref 1]) rfl rfl rfl ?_
      refine hp_getr (k := 4) (w := .ref 6) (pc' := 89) rfl rfl rfl rfl rfl ?_
      refine hp_s (pc' := 90) (st' := [.int k, .ref 6]) rfl rfl rfl ?_
      refine hp_s (pc' := 91) (st' := [.ref 7, .int k, .ref 6]) rfl rfl rfl ?_
      refine hp_getr (k := 4) (w := .ref 12) (pc' := 94) rfl rfl rfl rfl rfl ?_
      refine hp_s (pc' := 95) (st' := [.int k, .ref 12, .int k, .ref 6]) rfl rfl rfl ?_
      refine hp_ld (t := 100) (v := (rI p 12 k.toInt.toNat)) rfl (.inl rfl) rfl rfl (by rw [ep2, rI_o (by decide), ep1, rI_o (by decide)]) ?_
      intro (g3a : 0 ≤ k.toInt) (g3b : k.toInt < 10)
      refine hp_st (t := 100) rfl (.inl rfl) rfl rfl ?_
      intro p3 wp3 (p3a : 0 ≤ k.toInt) (p3b : k.toInt < 10) ep3
      refine hp_inc (L := fun z => [(2, .int z), (0, .ref 1), (1, .ref 7)]) (pc' := 100) rfl rfl rfl (fun _ => rfl) rfl ?_
      intro z1 hz1
      have ez1 := i_add hz1 (show k.toInt = k.toInt from rfl) (show (Int32.ofInt 1).toInt = 1 from by decide)
      refine hp_go (pc' := 55) rfl rfl rfl ?_
      obtain ⟨n1, r1, r2, r3⟩ := hO
      refine ih _ _ (by omega) (by omega) ⟨by rw [ep3, ep2, ep1]; exact ((n1.w rfl).w rfl).w rfl, fun j => ?_, fun j => ?_, fun j => ?_⟩
      · show rV p3 4 j = if 0 ≤ j ∧ j < _ then rV p0 10 j else rV p0 4 j
        rw [ep3, rV_ne (fun z => absurd z (by decide)), ep2, rV_ne (fun z => absurd z (by decide)), ep1, rV_w wp1 (by show _ < 10; omega)]
        rw [show rV p 4 j = _ from r1 j]
        exact if_fillf (f := fun j => rV p0 10 j) rfl (by omega) (Nat.zero_le _) (by rw [show rV p0 10 k.toInt.toNat = rV p 10 k.toInt.toNat from (n1 10 _ rfl).symm]; exact (rV_int wp (r := 10) rfl (by decide) (by show _ < 10; omega)).symm)
      · show rV p3 5 j = if 0 ≤ j ∧ j < _ then rV p0 11 j else rV p0 5 j
        rw [ep3, rV_ne (fun z => absurd z (by decide)), ep2, rV_w wp2 (by show _ < 10; omega)]
        rw [ep1, rV_ne (fun z => absurd z (by decide)), show rV p 5 j = _ from r2 j]
        exact if_fillf (f := fun j => rV p0 11 j) rfl (by omega) (Nat.zero_le _) (by rw [show rV p0 11 k.toInt.toNat = rV p 11 k.toInt.toNat from (n1 11 _ rfl).symm]; exact (rV_int wp (r := 11) rfl (by decide) (by show _ < 10; omega)).symm)
      · show rV p3 6 j = if 0 ≤ j ∧ j < _ then rV p0 12 j else rV p0 6 j
        rw [ep3, rV_w wp3 (by show _ < 10; omega)]
        rw [ep2, rV_ne (fun z => absurd z (by decide)), ep1, rV_ne (fun z => absurd z (by decide)), show rV p 6 j = _ from r3 j]
        exact if_fillf (f := fun j => rV p0 12 j) rfl (by omega) (Nat.zero_le _) (by rw [show rV p0 12 k.toInt.toNat = rV p 12 k.toInt.toNat from (n1 12 _ rfl).symm]; exact (rV_int wp (r := 12) rfl (by decide) (by show _ < 10; omega)).symm)
theorem s_copy1 {ro : List (List Int32)} {n d : Nat} {p : xH} {Q : Option Value → xH → Prop}   (k0 : ∀ p2 : xH, (hCs 1 7 p p2) → Q none p2) : hP ro n d (5, 3, 1, 0, k58) 0 (lv_args 0 [.ref 1, .ref 7]) [] p Q := by
  refine hp_id (ls := [(0, .ref 1), (1, .ref 7)]) ?_
  refine hp_s (pc' := 1) (st' := [.int 0]) rfl rfl rfl ?_
  refine hp_s (pc' := 2) (ls' := [(2, .int 0), (0, .ref 1), (1, .ref 7)]) (st' := []) rfl rfl rfl ?_
  refine hp_hw (fun wp => ?_)
  refine lp_58a_1 (fun pA kA oA nA => ?_) n 0 _ (by decide) (by decide) (hCo_0 (by decide))
  refine hp_s (pc' := 27) (st' := [.int 0]) rfl rfl rfl ?_
  refine hp_s (pc' := 28) (ls' := [(2, .int 0), (0, .ref 1), (1, .ref 7)]) (st' := []) rfl rfl rfl ?_
  refine hp_hw (fun wpA => ?_)
  refine lp_58b_1 (fun pB kB oB nB => ?_) nA 0 _ (by decide) (by decide) (hCo_0 (by decide))
  refine hp_s (pc' := 54) (st' := [.int 0]) rfl rfl rfl ?_
  refine hp_s (pc' := 55) (ls' := [(2, .int 0), (0, .ref 1), (1, .ref 7)]) (st' := []) rfl rfl rfl ?_
  refine hp_hw (fun wpB => ?_)
  refine lp_58c_1 (fun pC kC oC nC => ?_) nB 0 _ (by decide) (by decide) ⟨hNt.refl _ _, fun j => by rw [if_neg (by have h00 : (0 : Int32).toInt = 0 := (by decide); omega)], fun j => by rw [if_neg (by have h00 : (0 : Int32).toInt = 0 := (by decide); omega)], fun j => by rw [if_neg (by have h00 : (0 : Int32).toInt = 0 := (by decide); omega)]⟩
  obtain ⟨oC0, oC1, oC2, oC3⟩ := oC
  refine hp_s (pc' := 104) (st' := [.ref 1]) rfl rfl rfl ?_
  refine hp_s (pc' := 105) (st' := [.ref 7, .ref 1]) rfl rfl rfl ?_
  refine hp_get (k := 5) (pc' := 108) (v := (rI pC 7 5)) rfl rfl rfl rfl rfl rfl ?_
  refine hp_put (k := 5) (pc' := 111) rfl rfl rfl rfl rfl ?_
  intro p1 wp1 ep1
  refine hp_rv rfl rfl ?_
  refine k0 _ ⟨?_, ?_, fun j => ?_, fun j => ?_, fun j => ?_, fun j => ?_, fun j => ?_⟩
  · rw [ep1]; exact (((((hNt.refl _ p).on oA (fun _ => rfl)).on oB (fun _ => rfl)).trans (oC0.up (by decide))).w rfl)
  · rw [ep1, rI_eq wp1 (by decide), oC0.int rfl, oB.int (by decide), oA.int (by decide)]
  · show rV p1 2 j = rV p 8 j
    rw [ep1, rV_ne (fun z => absurd z (by decide)), show rV pC 2 j = rV pB 2 j from oC0 _ _ rfl, oB.1 2 j (by decide)]; exact hCo_all oA wp rfl rfl rfl rfl j
  · show rV p1 3 j = rV p 9 j
    rw [ep1, rV_ne (fun z => absurd z (by decide)), show rV pC 3 j = rV pB 3 j from oC0 _ _ rfl, ← oA.1 9 j (by decide)]; exact hCo_all oB wpA rfl rfl rfl rfl j
  · show rV p1 4 j = rV p 10 j
    rw [ep1, rV_ne (fun z => absurd z (by decide)), show rV pC 4 j = _ from oC1 j]
    refine (if_all (f := fun j => rV pB 10 j) (fun z => (rV_out wpB (r := 10) rfl z).trans (rV_out wpB (r := 4) rfl z).symm)).trans ?_
    show rV pB 10 j = rV p 10 j
    rw [oB.1 10 j (by decide), oA.1 10 j (by decide)]
  · show rV p1 5 j = rV p 11 j
    rw [ep1, rV_ne (fun z => absurd z (by decide)), show rV pC 5 j = _ from oC2 j]
    refine (if_all (f := fun j => rV pB 11 j) (fun z => (rV_out wpB (r := 11) rfl z).trans (rV_out wpB (r := 5) rfl z).symm)).trans ?_
    show rV pB 11 j = rV p 11 j
    rw [oB.1 11 j (by decide), oA.1 11 j (by decide)]
  · show rV p1 6 j = rV p 12 j
    rw [ep1, rV_ne (fun z => absurd z (by decide)), show rV pC 6 j = _ from oC3 j]
    refine (if_all (f := fun j => rV pB 12 j) (fun z => (rV_out wpB (r := 12) rfl z).trans (rV_out wpB (r := 6) rfl z).symm)).trans ?_
    show rV pB 12 j = rV p 12 j
    rw [oB.1 12 j (by decide), oA.1 12 j (by decide)]
theorem X_image {ro : List (List Int32)} {n d : Nat} {p : xH} {Q : Option Value → xH → Prop}   (k0 : ∀ p1 : xH, ∀ p2 : xH, ∀ z : Int32, (hCs 7 1 p p1) → (hW p1) → (p2 = wV (wV p1 0 2 (.int 1)) 0 3 (.int z)) → (z = rI p1 13 7) → Q (some (.int z)) p2) : hP ro n d (11, 1, 1, 1, k158) 0 (lv_args 0 [.ref 0]) [] p Q := by
  refine hp_id (ls := [(0, .ref 0)]) ?_
  refine hp_s (pc' := 1) (st' := [.ref 0]) rfl rfl rfl ?_
  refine hp_getr (k := 1) (w := .ref 7) (pc' := 4) rfl rfl rfl rfl rfl ?_
  refine hp_s (pc' := 5) (st' := [.ref 0, .ref 7]) rfl rfl rfl ?_
  refine hp_getr (k := 0) (w := .ref 1) (pc' := 8) rfl rfl rfl rfl rfl ?_
  refine hp_cv (r := 7) (o := 5) (kd := 1) (as := [.ref 1]) (rest := []) (pc' := 11) rfl rfl rfl rfl rfl rfl rfl rfl rfl (fun d1 => ?_)
  refine s_copy7 ?_
  intro p1 h1
  refine hp_id (st := []) ?_
  refine hp_s (pc' := 12) (st' := [.ref 0]) rfl rfl rfl ?_
  refine hp_s (pc' := 13) (st' := [.int 1, .ref 0]) rfl rfl rfl ?_
  refine hp_put (k := 2) (pc' := 16) rfl rfl rfl rfl rfl ?_
  intro p2 wp2 ep2
  refine hp_s (pc' := 17) (st' := [.ref 0]) rfl rfl rfl ?_
  refine hp_s (pc' := 18) (st' := [.ref 0, .ref 0]) rfl rfl rfl ?_
  refine hp_getr (k := 4) (w := .ref 13) (pc' := 21) rfl rfl rfl rfl rfl ?_
  refine hp_get (k := 7) (pc' := 24) (v := (rI p1 13 7)) rfl rfl rfl rfl rfl (by rw [ep2, rI_o (by decide)]) ?_
  refine hp_put (k := 3) (pc' := 27) rfl rfl rfl rfl rfl ?_
  intro p3 wp3 ep3
  refine hp_s (pc' := 28) (st' := [.ref 0]) rfl rfl rfl ?_
  refine hp_get (k := 3) (pc' := 31) (v := (rI p1 13 7)) rfl rfl rfl rfl rfl (by rw [ep3, rI_eq wp3 (by decide)]) ?_
  refine hp_ri rfl rfl ?_
  first | (exact k0 _ _ _ (by first | assumption | rfl | (subst_vars; rfl) | omega) (by first | assumption | rfl | (subst_vars; rfl) | omega) (by first | assumption | rfl | (subst_vars; rfl) | omega) (by first | assumption | rfl | (subst_vars; rfl) | omega)) | (exfalso; omega)
theorem X_back {ro : List (List Int32)} {n d : Nat} {p : xH} {Q : Option Value → xH → Prop}   (k0 : ((rI p 0 2).toInt = 0) → Q (some (.int (-5))) p) (k1 : ∀ p2 : xH, ∀ z : Int32, ((rI p 0 2).toInt ≠ 0) → (hCs 1 7 p p2) → (z = rI p2 0 3) → Q (some (.int z)) p2) : hP ro n d (11, 1, 1, 1, k159) 0 (lv_args 0 [.ref 0]) [] p Q := by
  refine hp_id (ls := [(0, .ref 0)]) ?_
  refine hp_s (pc' := 1) (st' := [.ref 0]) rfl rfl rfl ?_
  refine hp_get (k := 2) (pc' := 4) (v := (rI p 0 2)) rfl rfl rfl rfl rfl rfl ?_
  refine hp_if (pc' := 7) (t := 10) (a := (rI p 0 2).toInt) rfl rfl rfl rfl (fun (h1 : (rI p 0 2).toInt ≠ 0) => ?_) (fun (h2 : ¬ ((rI p 0 2).toInt ≠ 0)) => ?_)
  ·
    refine hp_s (pc' := 11) (st' := [.ref 0]) rfl rfl rfl ?_
    refine hp_getr (k := 0) (w := .ref 1) (pc' := 14) rfl rfl rfl rfl rfl ?_
    refine hp_s (pc' := 15) (st' := [.ref 0, .ref 1]) rfl rfl rfl ?_
    refine hp_getr (k := 1) (w := .ref 7) (pc' := 18) rfl rfl rfl rfl rfl ?_
    refine hp_cv (r := 1) (o := 5) (kd := 1) (as := [.ref 7]) (rest := []) (pc' := 21) rfl rfl rfl rfl rfl rfl rfl rfl rfl (fun d1 => ?_)
    refine s_copy1 ?_
    intro p1 h3
    refine hp_id (st := []) ?_
    refine hp_s (pc' := 22) (st' := [.ref 0]) rfl rfl rfl ?_
    refine hp_get (k := 3) (pc' := 25) (v := (rI p1 0 3)) rfl rfl rfl rfl rfl rfl ?_
    refine hp_ri rfl rfl ?_
    first | (exact k0 (by first | assumption | rfl | (subst_vars; rfl) | omega)) | (exact k1 _ _ (by first | assumption | rfl | (subst_vars; rfl) | omega) (by first | assumption | rfl | (subst_vars; rfl) | omega) (by first | assumption | rfl | (subst_vars; rfl) | omega)) | (exfalso; omega)
  ·
    refine hp_s (pc' := 9) (st' := [.int (-5)]) rfl rfl rfl ?_
    refine hp_ri rfl rfl ?_
    first | (exact k0 (by first | assumption | rfl | (subst_vars; rfl) | omega)) | (exact k1 _ _ (by first | assumption | rfl | (subst_vars; rfl) | omega) (by first | assumption | rfl | (subst_vars; rfl) | omega) (by first | assumption | rfl | (subst_vars; rfl) | omega)) | (exfalso; omega)
theorem lp_249a {ro : List (List Int32)} {d : Nat} {Q : Option Value → xH → Prop} {p0 : xH} (g0 : 0 ≤ (rI p0 66 6).toInt) (K : ∀ (p2 : xH) (k : Int32), hOn 92 (fun j => if 0 ≤ j ∧ j < 7 then (if j < (rI p0 66 6).toInt.toNat then rV p0 71 j else .int (-1)) else rV p0 92 j) p0 p2 → ∀ n, hP ro n d (12, 2, 1, 1, k249) 59 [(1, .int k), (0, .ref 66)] [] p2 Q) : ∀ (n : Nat) (k : Int32) (p : xH), (0 ≤ k.toInt) → (k.toInt ≤ 7) → (hOn 92 (fun j => if 0 ≤ j ∧ j < k.toInt.toNat then (if j < (rI p0 66 6).toInt.toNat then rV p0 71 j else .int (-1)) else rV p0 92 j) p0 p) → hP ro n d (12, 2, 1, 1, k249) 23 [(1, .int k), (0, .ref 66)] [] p Q := by
  intro n
  induction n with
  | zero => intros; exact hp_0
  | succ n ih =>
    intro k p h1 h2 hO
    refine hp_hw (fun wp => ?_)
    have g1 : (rI p 66 6).toInt = (rI p0 66 6).toInt := by rw [hO.int (by decide)]
    refine hp_s1 (pc' := 24) (st' := [.int k]) rfl rfl rfl ?_
    refine hp_s (pc' := 26) (st' := [.int 7, .int k]) rfl rfl rfl ?_
    refine hp_ic (pc' := 29) (t := 59) (a := k.toInt) (b := 7) rfl rfl rfl rfl (by decide) (fun (h1 : 7 ≤ k.toInt) => ?_) (fun (h2 : ¬ (7 ≤ k.toInt)) => ?_)
    ·
      exact K _ _ (hO.eq (fun j => by rw [show k.toInt.toNat = 7 by omega])) n
    ·
      refine hp_s (pc' := 30) (st' := [.ref 66]) rfl rfl rfl ?_
      refine hp_getr (k := 41) (w := .ref 92) (pc' := 33) rfl rfl rfl rfl rfl ?_
      refine hp_s (pc' := 34) (st' := [.int k, .ref 92]) rfl rfl rfl ?_
      refine hp_s (pc' := 35) (st' := [.int k, .int k, .ref 92]) rfl rfl rfl ?_
      refine hp_s (pc' := 36) (st' := [.ref 66, .int k, .int k, .ref 92]) rfl rfl rfl ?_
      refine hp_get (k := 6) (pc' := 39) (v := (rI p 66 6)) rfl rfl rfl rfl rfl rfl ?_
      refine hp_ic (pc' := 42) (t := 51) (a := k.toInt) (b := (rI p 66 6).toInt) rfl rfl rfl rfl rfl (fun (h3 : (rI p 66 6).toInt ≤ k.toInt) => ?_) (fun (h4 : ¬ ((rI p 66 6).toInt ≤ k.toInt)) => ?_)
      ·
        refine hp_s (pc' := 52) (st' := [.int (-1), .int k, .ref 92]) rfl rfl rfl ?_
        refine hp_st (t := 100) rfl (.inl rfl) rfl rfl ?_
        intro p1 wp1 (p1a : 0 ≤ k.toInt) (p1b : k.toInt < 7) ep1
        refine hp_inc (L := fun z => [(1, .int z), (0, .ref 66)]) (pc' := 56) rfl rfl rfl (fun _ => rfl) rfl ?_
        intro z1 hz1
        have ez1 := i_add hz1 (show k.toInt = k.toInt from rfl) (show (Int32.ofInt 1).toInt = 1 from by decide)
        refine hp_go (pc' := 23) rfl rfl rfl ?_
        refine ih _ _ (by omega) (by omega) ?_
        rw [ep1]
        refine (hO.w wp1 (by show _ < 7; omega)).eq (fun j => if_fillf (f := fun j => if j < (rI p0 66 6).toInt.toNat then rV p0 71 j else .int (-1)) rfl (by omega) (Nat.zero_le _) ?_)
        show Value.int (-1) = _
        rw [if_neg (by omega)]
      ·
        refine hp_s (pc' := 43) (st' := [.ref 66, .int k, .ref 92]) rfl rfl rfl ?_
        refine hp_getr (k := 7) (w := .ref 71) (pc' := 46) rfl rfl rfl rfl rfl ?_
        refine hp_s (pc' := 47) (st' := [.int k, .ref 71, .int k, .ref 92]) rfl rfl rfl ?_
        refine hp_ld (t := 100) (v := (rI p 71 k.toInt.toNat)) rfl (.inl rfl) rfl rfl rfl ?_
        intro (g1a : 0 ≤ k.toInt) (g1b : k.toInt < 7)
        refine hp_go (pc' := 52) rfl rfl rfl ?_
        refine hp_st (t := 100) rfl (.inl rfl) rfl rfl ?_
        intro p2 wp2 (p2a : 0 ≤ k.toInt) (p2b : k.toInt < 7) ep2
        refine hp_inc (L := fun z => [(1, .int z), (0, .ref 66)]) (pc' := 56) rfl rfl rfl (fun _ => rfl) rfl ?_
        intro z2 hz2
        have ez2 := i_add hz2 (show k.toInt = k.toInt from rfl) (show (Int32.ofInt 1).toInt = 1 from by decide)
        refine hp_go (pc' := 23) rfl rfl rfl ?_
        refine ih _ _ (by omega) (by omega) ?_
        rw [ep2]
        refine (hO.w wp2 (by show _ < 7; omega)).eq (fun j => if_fillf (f := fun j => if j < (rI p0 66 6).toInt.toNat then rV p0 71 j else .int (-1)) rfl (by omega) (Nat.zero_le _) ?_)
        rw [if_pos (by omega), show rV p0 71 k.toInt.toNat = rV p 71 k.toInt.toNat from (hO.1 71 _ (by decide)).symm]
        exact (rV_int wp (r := 71) rfl (by decide) (by show _ < 7; omega)).symm
theorem lp_249b {ro : List (List Int32)} {d : Nat} {Q : Option Value → xH → Prop} {p0 : xH} (K : ∀ (p2 : xH) (k : Int32), hCo 93 88 210 p0 p2 → ∀ n, hP ro n d (12, 2, 1, 1, k249) 86 [(1, .int k), (0, .ref 66)] [] p2 Q) : ∀ (n : Nat) (k : Int32) (p : xH), (0 ≤ k.toInt) → (k.toInt ≤ 210) → (hCo 93 88 k.toInt.toNat p0 p) → hP ro n d (12, 2, 1, 1, k249) 61 [(1, .int k), (0, .ref 66)] [] p Q := by
  intro n
  induction n with
  | zero => intros; exact hp_0
  | succ n ih =>
    intro k p h1 h2 hO
    refine hp_hw (fun wp => ?_)
    refine hp_s1 (pc' := 62) (st' := [.int k]) rfl rfl rfl ?_
    refine hp_s (pc' := 65) (st' := [.int 210, .int k]) rfl rfl rfl ?_
    refine hp_ic (pc' := 68) (t := 86) (a := k.toInt) (b := 210) rfl rfl rfl rfl (by decide) (fun (h1 : 210 ≤ k.toInt) => ?_) (fun (h2 : ¬ (210 ≤ k.toInt)) => ?_)
    ·
      exact K _ _ (show hCo 93 88 210 _ _ from by rw [show (210 : Nat) = k.toInt.toNat by omega]; exact hO) n
    ·
      refine hp_s (pc' := 69) (st' := [.ref 66]) rfl rfl rfl ?_
      refine hp_getr (k := 42) (w := .ref 93) (pc' := 72) rfl rfl rfl rfl rfl ?_
      refine hp_s (pc' := 73) (st' := [.int k, .ref 93]) rfl rfl rfl ?_
      refine hp_s (pc' := 74) (st' := [.ref 66, .int k, .ref 93]) rfl rfl rfl ?_
      refine hp_getr (k := 33) (w := .ref 88) (pc' := 77) rfl rfl rfl rfl rfl ?_
      refine hp_s (pc' := 78) (st' := [.int k, .ref 88, .int k, .ref 93]) rfl rfl rfl ?_
      refine hp_ld (t := 100) (v := (rI p 88 k.toInt.toNat)) rfl (.inl rfl) rfl rfl rfl ?_
      intro (g1a : 0 ≤ k.toInt) (g1b : k.toInt < 210)
      refine hp_st (t := 100) rfl (.inl rfl) rfl rfl ?_
      intro p1 wp1 (p1a : 0 ≤ k.toInt) (p1b : k.toInt < 210) ep1
      refine hp_inc (L := fun z => [(1, .int z), (0, .ref 66)]) (pc' := 83) rfl rfl rfl (fun _ => rfl) rfl ?_
      intro z1 hz1
      have ez1 := i_add hz1 (show k.toInt = k.toInt from rfl) (show (Int32.ofInt 1).toInt = 1 from by decide)
      refine hp_go (pc' := 61) rfl rfl rfl ?_
      refine ih _ _ (by omega) (by omega) ?_
      rw [ep1]
      exact hCo_s hO wp1 (by decide) rfl (by omega) (by show _ < 210; omega) (by rw [← hO.1 88 _ (by decide)]; exact rV_int wp (r := 88) rfl (by decide) (by show _ < 210; omega))
theorem lp_249c {ro : List (List Int32)} {d : Nat} {Q : Option Value → xH → Prop} {p0 : xH} (K : ∀ (p2 : xH) (k : Int32), hCo 94 89 30 p0 p2 → ∀ n, hP ro n d (12, 2, 1, 1, k249) 112 [(1, .int k), (0, .ref 66)] [] p2 Q) : ∀ (n : Nat) (k : Int32) (p : xH), (0 ≤ k.toInt) → (k.toInt ≤ 30) → (hCo 94 89 k.toInt.toNat p0 p) → hP ro n d (12, 2, 1, 1, k249) 88 [(1, .int k), (0, .ref 66)] [] p Q := by
  intro n
  induction n with
  | zero => intros; exact hp_0
  | succ n ih =>
    intro k p h1 h2 hO
    refine hp_hw (fun wp => ?_)
    refine hp_s1 (pc' := 89) (st' := [.int k]) rfl rfl rfl ?_
    refine hp_s (pc' := 91) (st' := [.int 30, .int k]) rfl rfl rfl ?_
    refine hp_ic (pc' := 94) (t := 112) (a := k.toInt) (b := 30) rfl rfl rfl rfl (by decide) (fun (h1 : 30 ≤ k.toInt) => ?_) (fun (h2 : ¬ (30 ≤ k.toInt)) => ?_)
    ·
      exact K _ _ (show hCo 94 89 30 _ _ from by rw [show (30 : Nat) = k.toInt.toNat by omega]; exact hO) n
    ·
      refine hp_s (pc' := 95) (st' := [.ref 66]) rfl rfl rfl ?_
      refine hp_getr (k := 43) (w := .ref 94) (pc' := 98) rfl rfl rfl rfl rfl ?_
      refine hp_s (pc' := 99) (st' := [.int k, .ref 94]) rfl rfl rfl ?_
      refine hp_s (pc' := 100) (st' := [.ref 66, .int k, .ref 94]) rfl rfl rfl ?_
      refine hp_getr (k := 35) (w := .ref 89) (pc' := 103) rfl rfl rfl rfl rfl ?_
      refine hp_s (pc' := 104) (st' := [.int k, .ref 89, .int k, .ref 94]) rfl rfl rfl ?_
      refine hp_ld (t := 100) (v := (rI p 89 k.toInt.toNat)) rfl (.inl rfl) rfl rfl rfl ?_
      intro (g1a : 0 ≤ k.toInt) (g1b : k.toInt < 30)
      refine hp_st (t := 100) rfl (.inl rfl) rfl rfl ?_
      intro p1 wp1 (p1a : 0 ≤ k.toInt) (p1b : k.toInt < 30) ep1
      refine hp_inc (L := fun z => [(1, .int z), (0, .ref 66)]) (pc' := 109) rfl rfl rfl (fun _ => rfl) rfl ?_
      intro z1 hz1
      have ez1 := i_add hz1 (show k.toInt = k.toInt from rfl) (show (Int32.ofInt 1).toInt = 1 from by decide)
      refine hp_go (pc' := 88) rfl rfl rfl ?_
      refine ih _ _ (by omega) (by omega) ?_
      rw [ep1]
      exact hCo_s hO wp1 (by decide) rfl (by omega) (by show _ < 30; omega) (by rw [← hO.1 89 _ (by decide)]; exact rV_int wp (r := 89) rfl (by decide) (by show _ < 30; omega))
theorem lp_250a {ro : List (List Int32)} {d : Nat} {Q : Option Value → xH → Prop} {p0 : xH} (K : ∀ (p2 : xH) (k : Int32), hCo 71 92 7 p0 p2 → ∀ n, hP ro n d (12, 2, 1, 1, k250) 44 [(1, .int k), (0, .ref 66)] [] p2 Q) : ∀ (n : Nat) (k : Int32) (p : xH), (0 ≤ k.toInt) → (k.toInt ≤ 7) → (hCo 71 92 k.toInt.toNat p0 p) → hP ro n d (12, 2, 1, 1, k250) 20 [(1, .int k), (0, .ref 66)] [] p Q := by
  intro n
  induction n with
  | zero => intros; exact hp_0
  | succ n ih =>
    intro k p h1 h2 hO
    refine hp_hw (fun wp => ?_)
    refine hp_s1 (pc' := 21) (st' := [.int k]) rfl rfl rfl ?_
    refine hp_s (pc' := 23) (st' := [.int 7, .int k]) rfl rfl rfl ?_
    refine hp_ic (pc' := 26) (t := 44) (a := k.toInt) (b := 7) rfl rfl rfl rfl (by decide) (fun (h1 : 7 ≤ k.toInt) => ?_) (fun (h2 : ¬ (7 ≤ k.toInt)) => ?_)
    ·
      exact K _ _ (show hCo 71 92 7 _ _ from by rw [show (7 : Nat) = k.toInt.toNat by omega]; exact hO) n
    ·
      refine hp_s (pc' := 27) (st' := [.ref 66]) rfl rfl rfl ?_
      refine hp_getr (k := 7) (w := .ref 71) (pc' := 30) rfl rfl rfl rfl rfl ?_
      refine hp_s (pc' := 31) (st' := [.int k, .ref 71]) rfl rfl rfl ?_
      refine hp_s (pc' := 32) (st' := [.ref 66, .int k, .ref 71]) rfl rfl rfl ?_
      refine hp_getr (k := 41) (w := .ref 92) (pc' := 35) rfl rfl rfl rfl rfl ?_
      refine hp_s (pc' := 36) (st' := [.int k, .ref 92, .int k, .ref 71]) rfl rfl rfl ?_
      refine hp_ld (t := 100) (v := (rI p 92 k.toInt.toNat)) rfl (.inl rfl) rfl rfl rfl ?_
      intro (g1a : 0 ≤ k.toInt) (g1b : k.toInt < 7)
      refine hp_st (t := 100) rfl (.inl rfl) rfl rfl ?_
      intro p1 wp1 (p1a : 0 ≤ k.toInt) (p1b : k.toInt < 7) ep1
      refine hp_inc (L := fun z => [(1, .int z), (0, .ref 66)]) (pc' := 41) rfl rfl rfl (fun _ => rfl) rfl ?_
      intro z1 hz1
      have ez1 := i_add hz1 (show k.toInt = k.toInt from rfl) (show (Int32.ofInt 1).toInt = 1 from by decide)
      refine hp_go (pc' := 20) rfl rfl rfl ?_
      refine ih _ _ (by omega) (by omega) ?_
      rw [ep1]
      exact hCo_s hO wp1 (by decide) rfl (by omega) (by show _ < 7; omega) (by rw [← hO.1 92 _ (by decide)]; exact rV_int wp (r := 92) rfl (by decide) (by show _ < 7; omega))
theorem lp_250b {ro : List (List Int32)} {d : Nat} {Q : Option Value → xH → Prop} {p0 : xH} (K : ∀ (p2 : xH) (k : Int32), hCo 88 93 210 p0 p2 → ∀ n, hP ro n d (12, 2, 1, 1, k250) 71 [(1, .int k), (0, .ref 66)] [] p2 Q) : ∀ (n : Nat) (k : Int32) (p : xH), (0 ≤ k.toInt) → (k.toInt ≤ 210) → (hCo 88 93 k.toInt.toNat p0 p) → hP ro n d (12, 2, 1, 1, k250) 46 [(1, .int k), (0, .ref 66)] [] p Q := by
  intro n
  induction n with
  | zero => intros; exact hp_0
  | succ n ih =>
    intro k p h1 h2 hO
    refine hp_hw (fun wp => ?_)
    refine hp_s1 (pc' := 47) (st' := [.int k]) rfl rfl rfl ?_
    refine hp_s (pc' := 50) (st' := [.int 210, .int k]) rfl rfl rfl ?_
    refine hp_ic (pc' := 53) (t := 71) (a := k.toInt) (b := 210) rfl rfl rfl rfl (by decide) (fun (h1 : 210 ≤ k.toInt) => ?_) (fun (h2 : ¬ (210 ≤ k.toInt)) => ?_)
    ·
      exact K _ _ (show hCo 88 93 210 _ _ from by rw [show (210 : Nat) = k.toInt.toNat by omega]; exact hO) n
    ·
      refine hp_s (pc' := 54) (st' := [.ref 66]) rfl rfl rfl ?_
      refine hp_getr (k := 33) (w := .ref 88) (pc' := 57) rfl rfl rfl rfl rfl ?_
      refine hp_s (pc' := 58) (st' := [.int k, .ref 88]) rfl rfl rfl ?_
      refine hp_s (pc' := 59) (st' := [.ref 66, .int k, .ref 88]) rfl rfl rfl ?_
      refine hp_getr (k := 42) (w := .ref 93) (pc' := 62) rfl rfl rfl rfl rfl ?_
      refine hp_s (pc' := 63) (st' := [.int k, .ref 93, .int k, .ref 88]) rfl rfl rfl ?_
      refine hp_ld (t := 100) (v := (rI p 93 k.toInt.toNat)) rfl (.inl rfl) rfl rfl rfl ?_
      intro (g1a : 0 ≤ k.toInt) (g1b : k.toInt < 210)
      refine hp_st (t := 100) rfl (.inl rfl) rfl rfl ?_
      intro p1 wp1 (p1a : 0 ≤ k.toInt) (p1b : k.toInt < 210) ep1
      refine hp_inc (L := fun z => [(1, .int z), (0, .ref 66)]) (pc' := 68) rfl rfl rfl (fun _ => rfl) rfl ?_
      intro z1 hz1
      have ez1 := i_add hz1 (show k.toInt = k.toInt from rfl) (show (Int32.ofInt 1).toInt = 1 from by decide)
      refine hp_go (pc' := 46) rfl rfl rfl ?_
      refine ih _ _ (by omega) (by omega) ?_
      rw [ep1]
      exact hCo_s hO wp1 (by decide) rfl (by omega) (by show _ < 210; omega) (by rw [← hO.1 93 _ (by decide)]; exact rV_int wp (r := 93) rfl (by decide) (by show _ < 210; omega))
theorem lp_250c {ro : List (List Int32)} {d : Nat} {Q : Option Value → xH → Prop} {p0 : xH} (K : ∀ (p2 : xH) (k : Int32), hCo 89 94 30 p0 p2 → ∀ n, hP ro n d (12, 2, 1, 1, k250) 97 [(1, .int k), (0, .ref 66)] [] p2 Q) : ∀ (n : Nat) (k : Int32) (p : xH), (0 ≤ k.toInt) → (k.toInt ≤ 30) → (hCo 89 94 k.toInt.toNat p0 p) → hP ro n d (12, 2, 1, 1, k250) 73 [(1, .int k), (0, .ref 66)] [] p Q := by
  intro n
  induction n with
  | zero => intros; exact hp_0
  | succ n ih =>
    intro k p h1 h2 hO
    refine hp_hw (fun wp => ?_)
    refine hp_s1 (pc' := 74) (st' := [.int k]) rfl rfl rfl ?_
    refine hp_s (pc' := 76) (st' := [.int 30, .int k]) rfl rfl rfl ?_
    refine hp_ic (pc' := 79) (t := 97) (a := k.toInt) (b := 30) rfl rfl rfl rfl (by decide) (fun (h1 : 30 ≤ k.toInt) => ?_) (fun (h2 : ¬ (30 ≤ k.toInt)) => ?_)
    ·
      exact K _ _ (show hCo 89 94 30 _ _ from by rw [show (30 : Nat) = k.toInt.toNat by omega]; exact hO) n
    ·
      refine hp_s (pc' := 80) (st' := [.ref 66]) rfl rfl rfl ?_
      refine hp_getr (k := 35) (w := .ref 89) (pc' := 83) rfl rfl rfl rfl rfl ?_
      refine hp_s (pc' := 84) (st' := [.int k, .ref 89]) rfl rfl rfl ?_
      refine hp_s (pc' := 85) (st' := [.ref 66, .int k, .ref 89]) rfl rfl rfl ?_
      refine hp_getr (k := 43) (w := .ref 94) (pc' := 88) rfl rfl rfl rfl rfl ?_
      refine hp_s (pc' := 89) (st' := [.int k, .ref 94, .int k, .ref 89]) rfl rfl rfl ?_
      refine hp_ld (t := 100) (v := (rI p 94 k.toInt.toNat)) rfl (.inl rfl) rfl rfl rfl ?_
      intro (g1a : 0 ≤ k.toInt) (g1b : k.toInt < 30)
      refine hp_st (t := 100) rfl (.inl rfl) rfl rfl ?_
      intro p1 wp1 (p1a : 0 ≤ k.toInt) (p1b : k.toInt < 30) ep1
      refine hp_inc (L := fun z => [(1, .int z), (0, .ref 66)]) (pc' := 94) rfl rfl rfl (fun _ => rfl) rfl ?_
      intro z1 hz1
      have ez1 := i_add hz1 (show k.toInt = k.toInt from rfl) (show (Int32.ofInt 1).toInt = 1 from by decide)
      refine hp_go (pc' := 73) rfl rfl rfl ?_
      refine ih _ _ (by omega) (by omega) ?_
      rw [ep1]
      exact hCo_s hO wp1 (by decide) rfl (by omega) (by show _ < 30; omega) (by rw [← hO.1 94 _ (by decide)]; exact rV_int wp (r := 94) rfl (by decide) (by show _ < 30; omega))
theorem M_image {ro : List (List Int32)} {n d : Nat} {p : xH} {Q : Option Value → xH → Prop}  (pre0 : 0 ≤ (rI p 66 6).toInt) (k0 : ∀ q : xH, ∀ pA : xH, ∀ pB : xH, ∀ pC : xH, ∀ z : Int32, (q = wV (wV (wV p 66 38 (.int 1)) 66 39 (.int (rI p 66 6))) 66 40 (.int (rI p 66 34))) → (hOn 92 (fun j => if 0 ≤ j ∧ j < 7 then (if j < (rI q 66 6).toInt.toNat then rV q 71 j else .int (-1)) else rV q 92 j) q pA) → (hCo 93 88 210 pA pB) → (hCo 94 89 30 pB pC) → (z = rI pC 66 6) → (hW pA) → (hW pB) → Q (some (.int z)) pC) : hP ro n d (12, 2, 1, 1, k249) 0 (lv_args 0 [.ref 66]) [] p Q := by
  refine hp_id (ls := [(0, .ref 66)]) ?_
  refine hp_s (pc' := 1) (st' := [.ref 66]) rfl rfl rfl ?_
  refine hp_s (pc' := 2) (st' := [.int 1, .ref 66]) rfl rfl rfl ?_
  refine hp_put (k := 38) (pc' := 5) rfl rfl rfl rfl rfl ?_
  intro p1 wp1 ep1
  refine hp_s (pc' := 6) (st' := [.ref 66]) rfl rfl rfl ?_
  refine hp_s (pc' := 7) (st' := [.ref 66, .ref 66]) rfl rfl rfl ?_
  refine hp_get (k := 6) (pc' := 10) (v := (rI p 66 6)) rfl rfl rfl rfl rfl (by rw [ep1, rI_ne (fun _ => by decide)]) ?_
  refine hp_put (k := 39) (pc' := 13) rfl rfl rfl rfl rfl ?_
  intro p2 wp2 ep2
  refine hp_s (pc' := 14) (st' := [.ref 66]) rfl rfl rfl ?_
  refine hp_s (pc' := 15) (st' := [.ref 66, .ref 66]) rfl rfl rfl ?_
  refine hp_get (k := 34) (pc' := 18) (v := (rI p 66 34)) rfl rfl rfl rfl rfl (by rw [ep2, rI_ne (fun _ => by decide), ep1, rI_ne (fun _ => by decide)]) ?_
  refine hp_put (k := 40) (pc' := 21) rfl rfl rfl rfl rfl ?_
  intro p3 wp3 ep3
  refine hp_s (pc' := 22) (st' := [.int 0]) rfl rfl rfl ?_
  refine hp_s (pc' := 23) (ls' := [(1, .int 0), (0, .ref 66)]) (st' := []) rfl rfl rfl ?_
  refine lp_249a (by rw [ep3, rI_ne (fun _ => by decide), ep2, rI_ne (fun _ => by decide), ep1, rI_ne (fun _ => by decide)]; exact pre0) (fun pA kA oA nA => ?_) n 0 _ (by decide) (by decide) ((hOn.refl _ _).eq (fun j => by rw [if_neg (by have h00 : (0 : Int32).toInt = 0 := (by decide); omega)]))
  refine hp_hw (fun wA => ?_)
  refine hp_s (pc' := 60) (st' := [.int 0]) rfl rfl rfl ?_
  refine hp_s (pc' := 61) (ls' := [(1, .int 0), (0, .ref 66)]) (st' := []) rfl rfl rfl ?_
  refine lp_249b (fun pB kB oB nB => ?_) nA 0 _ (by decide) (by decide) (hCo_0 (by decide))
  refine hp_hw (fun wB => ?_)
  refine hp_s (pc' := 87) (st' := [.int 0]) rfl rfl rfl ?_
  refine hp_s (pc' := 88) (ls' := [(1, .int 0), (0, .ref 66)]) (st' := []) rfl rfl rfl ?_
  refine lp_249c (fun pC kC oC nC => ?_) nB 0 _ (by decide) (by decide) (hCo_0 (by decide))
  refine hp_hw (fun wC => ?_)
  refine hp_s (pc' := 113) (st' := [.ref 66]) rfl rfl rfl ?_
  refine hp_get (k := 6) (pc' := 116) (v := (rI pC 66 6)) rfl rfl rfl rfl rfl rfl ?_
  refine hp_ri rfl rfl ?_
  exact k0 _ _ _ _ _ (by subst_vars; rfl) oA oB oC rfl wA wB
theorem M_back {ro : List (List Int32)} {n d : Nat} {p : xH} {Q : Option Value → xH → Prop}   (k0 : ((rI p 66 38).toInt = 0) → Q (some (.int (-5))) p) (k1 : ∀ q : xH, ∀ pA : xH, ∀ pB : xH, ∀ pC : xH, ∀ z : Int32, ((rI p 66 38).toInt ≠ 0) → (q = wV p 66 34 (.int (rI p 66 40))) → (hCo 71 92 7 q pA) → (hCo 88 93 210 pA pB) → (hCo 89 94 30 pB pC) → (z = rI pC 66 39) → (hW pA) → (hW pB) → Q (some (.int z)) pC) : hP ro n d (12, 2, 1, 1, k250) 0 (lv_args 0 [.ref 66]) [] p Q := by
  refine hp_id (ls := [(0, .ref 66)]) ?_
  refine hp_s (pc' := 1) (st' := [.ref 66]) rfl rfl rfl ?_
  refine hp_get (k := 38) (pc' := 4) (v := (rI p 66 38)) rfl rfl rfl rfl rfl rfl ?_
  refine hp_if (pc' := 7) (t := 10) (a := (rI p 66 38).toInt) rfl rfl rfl rfl (fun (h1 : (rI p 66 38).toInt ≠ 0) => ?_) (fun (h2 : ¬ ((rI p 66 38).toInt ≠ 0)) => ?_)
  ·
    refine hp_s (pc' := 11) (st' := [.ref 66]) rfl rfl rfl ?_
    refine hp_s (pc' := 12) (st' := [.ref 66, .ref 66]) rfl rfl rfl ?_
    refine hp_get (k := 40) (pc' := 15) (v := (rI p 66 40)) rfl rfl rfl rfl rfl rfl ?_
    refine hp_put (k := 34) (pc' := 18) rfl rfl rfl rfl rfl ?_
    intro p1 wp1 ep1
    refine hp_s (pc' := 19) (st' := [.int 0]) rfl rfl rfl ?_
    refine hp_s (pc' := 20) (ls' := [(1, .int 0), (0, .ref 66)]) (st' := []) rfl rfl rfl ?_
    refine lp_250a (fun pA kA oA nA => ?_) n 0 _ (by decide) (by decide) (hCo_0 (by decide))
    refine hp_hw (fun wA => ?_)
    refine hp_s (pc' := 45) (st' := [.int 0]) rfl rfl rfl ?_
    refine hp_s (pc' := 46) (ls' := [(1, .int 0), (0, .ref 66)]) (st' := []) rfl rfl rfl ?_
    refine lp_250b (fun pB kB oB nB => ?_) nA 0 _ (by decide) (by decide) (hCo_0 (by decide))
    refine hp_hw (fun wB => ?_)
    refine hp_s (pc' := 72) (st' := [.int 0]) rfl rfl rfl ?_
    refine hp_s (pc' := 73) (ls' := [(1, .int 0), (0, .ref 66)]) (st' := []) rfl rfl rfl ?_
    refine lp_250c (fun pC kC oC nC => ?_) nB 0 _ (by decide) (by decide) (hCo_0 (by decide))
    refine hp_hw (fun wC => ?_)
    refine hp_s (pc' := 98) (st' := [.ref 66]) rfl rfl rfl ?_
    refine hp_get (k := 39) (pc' := 101) (v := (rI pC 66 39)) rfl rfl rfl rfl rfl rfl ?_
    refine hp_ri rfl rfl ?_
    exact k1 _ _ _ _ _ (by omega) (by subst_vars; rfl) oA oB oC rfl wA wB
  ·
    refine hp_s (pc' := 9) (st' := [.int (-5)]) rfl rfl rfl ?_
    refine hp_ri rfl rfl ?_
    exact k0 (by omega)
