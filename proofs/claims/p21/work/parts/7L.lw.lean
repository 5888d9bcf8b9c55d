/-! contracts of methods, walked -/
theorem hCd_mv {p p2 : xH} {r r2 L : Nat} {e : lE} (h : hCd p r L e) (g : ∀ j, L ≤ j → j < L + e.length → rV p2 r2 j = rV p r j ∧ rV p2 (r2 + 1) j = rV p (r + 1) j) : hCd p2 r2 L e := fun i x hx => by
  have hi := (List.getElem?_eq_some_iff.mp hx).1
  have q := g (L + i) (by omega) (by omega)
  have q2 := h i x hx
  unfold rI at q2 ⊢
  rw [q.1, q.2]
  exact q2
theorem lp_40 {ro : List (List Int32)} {d : Nat} {Q : Option Value → xH → Prop} {p0 : xH} (K : ∀ p2 : xH, hNt [(21, 9999), (22, 9999)] p0 p2 → (∀ j, j < 128 → rV p2 21 j = rV p0 27 j ∧ rV p2 22 j = rV p0 28 j) → Q none p2) : ∀ (n : Nat) (k : Int32) (p : xH), (0 ≤ k.toInt) → (k.toInt ≤ 128) → (hNt [(21, 9999), (22, 9999)] p0 p) → (∀ j, j < k.toInt.toNat → rV p 21 j = rV p0 27 j ∧ rV p 22 j = rV p0 28 j) → hP ro n d (3, 3, 1, 0, k40) 10 [(2, .int k), (0, .ref 20), (1, .ref 26)] [] p Q := by
  intro n
  induction n with
  | zero => intros; exact hp_0
  | succ n ih =>
    intro k p h1 h2 hN hc
    refine hp_hw (fun wp => ?_)
    refine hp_s1 (pc' := 11) (st' := [.int k]) rfl rfl rfl ?_
    refine hp_s (pc' := 14) (st' := [.int 128, .int k]) rfl rfl rfl ?_
    refine hp_ic (pc' := 17) (t := 47) (a := k.toInt) (b := 128) rfl rfl rfl rfl (by decide) (fun (h1 : 128 ≤ k.toInt) => ?_) (fun (h2 : ¬ (128 ≤ k.toInt)) => ?_)
    ·
      refine hp_rv rfl rfl ?_
      exact K p hN (fun j hj => hc j (by omega))
    ·
      refine hp_s (pc' := 18) (st' := [.ref 20]) rfl rfl rfl ?_
      refine hp_getr (k := 0) (w := .ref 21) (pc' := 21) rfl rfl rfl rfl rfl ?_
      refine hp_s (pc' := 22) (st' := [.int k, .ref 21]) rfl rfl rfl ?_
      refine hp_s (pc' := 23) (st' := [.ref 26, .int k, .ref 21]) rfl rfl rfl ?_
      refine hp_getr (k := 0) (w := .ref 27) (pc' := 26) rfl rfl rfl rfl rfl ?_
      refine hp_s (pc' := 27) (st' := [.int k, .ref 27, .int k, .ref 21]) rfl rfl rfl ?_
      refine hp_ld (t := 100) (v := (rI p 27 k.toInt.toNat)) rfl (.inl rfl) rfl rfl rfl ?_
      intro (g1a : 0 ≤ k.toInt) (g1b : k.toInt < 128)
      refine hp_st (t := 100) rfl (.inl rfl) rfl rfl ?_
      intro p1 wp1 (p1a : 0 ≤ k.toInt) (p1b : k.toInt < 128) ep1
      refine hp_s (pc' := 30) (st' := [.ref 20]) rfl rfl rfl ?_
      refine hp_getr (k := 1) (w := .ref 22) (pc' := 33) rfl rfl rfl rfl rfl ?_
      refine hp_s (pc' := 34) (st' := [.int k, .ref 22]) rfl rfl rfl ?_
      refine hp_s (pc' := 35) (st' := [.ref 26, .int k, .ref 22]) rfl rfl rfl ?_
      refine hp_getr (k := 1) (w := .ref 28) (pc' := 38) rfl rfl rfl rfl rfl ?_
      refine hp_s (pc' := 39) (st' := [.int k, .ref 28, .int k, .ref 22]) rfl rfl rfl ?_
      refine hp_ld (t := 100) (v := (rI p 28 k.toInt.toNat)) rfl (.inl rfl) rfl rfl (by rw [ep1, rI_o (by decide)]) ?_
      intro (g2a : 0 ≤ k.toInt) (g2b : k.toInt < 128)
      refine hp_st (t := 100) rfl (.inl rfl) rfl rfl ?_
      intro p2 wp2 (p2a : 0 ≤ k.toInt) (p2b : k.toInt < 128) ep2
      refine hp_inc (L := fun z => [(2, .int z), (0, .ref 20), (1, .ref 26)]) (pc' := 44) rfl rfl rfl (fun _ => rfl) rfl ?_
      intro z1 hz1
      have ez1 := i_add hz1 (show k.toInt = k.toInt from rfl) (show (Int32.ofInt 1).toInt = 1 from by decide)
      refine hp_go (pc' := 10) rfl rfl rfl ?_
      refine ih z1 _ (by omega) (by omega) (by rw [ep2, ep1]; exact (hN.w rfl).w rfl) (fun j hj => ?_)
      have r21 : rV p2 21 j = if j = k.toInt.toNat then .int (rI p 27 k.toInt.toNat) else rV p 21 j := by rw [ep2, rV_ne (fun z => absurd z (by decide)), ep1, rV_w wp (by show _ < 128; omega)]
      have r22 : rV p2 22 j = if j = k.toInt.toNat then .int (rI p 28 k.toInt.toNat) else rV p 22 j := by rw [ep2, rV_w wp2 (by show _ < 128; omega), ep1, rV_ne (fun z => absurd z (by decide))]
      rw [r21, r22]
      by_cases g : j = k.toInt.toNat
      · rw [if_pos g, if_pos g, g, ← hN 27 _ rfl, ← hN 28 _ rfl, rV_int wp (r := 27) rfl (by decide) (by show _ < 128; omega), rV_int wp (r := 28) rfl (by decide) (by show _ < 128; omega)]; exact ⟨rfl, rfl⟩
      · rw [if_neg g, if_neg g]; exact hc j (by omega)
theorem s_copyL {ro : List (List Int32)} {n d : Nat} {p : xH} {Q : Option Value → xH → Prop}   (k0 : ∀ p2 : xH, (hNt [(20, 2), (21, 9999), (22, 9999)] p p2) → (rI p2 20 2 = rI p 26 2) → (∀ j, j < 128 → rV p2 21 j = rV p 27 j ∧ rV p2 22 j = rV p 28 j) → Q none p2) : hP ro n d (3, 3, 1, 0, k40) 0 (lv_args 0 [.ref 20, .ref 26]) [] p Q := by
  refine hp_id (ls := [(0, .ref 20), (1, .ref 26)]) ?_
  refine hp_hw (fun wp => ?_)
  refine hp_s (pc' := 1) (st' := [.ref 20]) rfl rfl rfl ?_
  refine hp_s (pc' := 2) (st' := [.ref 26, .ref 20]) rfl rfl rfl ?_
  refine hp_get (k := 2) (pc' := 5) (v := (rI p 26 2)) rfl rfl rfl rfl rfl rfl ?_
  refine hp_put (k := 2) (pc' := 8) rfl rfl rfl rfl rfl ?_
  intro p1 wp1 ep1
  refine hp_s (pc' := 9) (st' := [.int 0]) rfl rfl rfl ?_
  refine hp_s (pc' := 10) (ls' := [(2, .int 0), (0, .ref 20), (1, .ref 26)]) (st' := []) rfl rfl rfl ?_
  exact lp_40 (p0 := p1) (fun p2 h1 h2 => k0 p2 (hNt.trans (by rw [ep1]; exact (hNt.refl _ _).w rfl) (h1.up (by decide))) (by rw [h1.int (r := 20) (k := 2) rfl, ep1, rI_eq wp (by decide)]) (fun j hj => by have q := h2 j hj; rw [q.1, q.2, ep1, rV_ne (fun z => absurd z (by decide)), rV_ne (fun z => absurd z (by decide))]; exact ⟨rfl, rfl⟩)) n 0 _ (by decide) (by decide) (hNt.refl _ _) (fun j hj => absurd hj (by have h00 : (0 : Int32).toInt = 0 := (by decide); omega))
theorem XT_law {p p1 p2 p3 : xH} {ac : List yN} {b : Nat} (hw : hW p2) (h : XT p p1 ac b) (hb : b ≤ 120) (n2 : hNt [(20, 2), (21, 9999), (22, 9999)] p1 p2) (e1 : rI p2 20 2 = rI p1 26 2) (e2 : ∀ j, j < 128 → rV p2 21 j = rV p1 27 j ∧ rV p2 22 j = rV p1 28 j) (e3 : p3 = wV p2 25 2 (.int 0)) : (rI p3 25 2).toInt = 0 ∧ (rI p3 20 2).toInt = ((ltc 0 ac).length : Int) ∧ hCd p3 21 0 (ltc 0 ac) := by
  obtain ⟨h1, h2, h3, h4, h5, h6, h7⟩ := h
  refine ⟨by rw [e3, rI_eq hw (by decide)]; decide, by rw [e3, rI_o (by decide), e1, h3], ?_⟩
  refine hCd_mv (r := 27) h5 (fun j _ hj => ?_)
  rw [e3, rV_ne (fun z => absurd z (by decide)), rV_ne (fun z => absurd z (by decide))]
  exact e2 j (by omega)
theorem X_law {ro : List (List Int32)} {n d : Nat} {p : xH} {Q : Option Value → xH → Prop}  (pre0 : 0 ≤ (rI p 25 2).toInt) (pre1 : (rI p 25 2).toInt ≤ 120) (k0 : ∀ ac : List yN, ∀ p2 : xH, (hNt [(25, 3), (26, 2), (27, 9999), (28, 9999), (20, 2), (21, 9999), (22, 9999), (25, 2)] p p2) → (yT (fX p) 0 [] (some ac, (rI p 25 2).toInt.toNat)) → ((rI p2 25 2).toInt = 0) → ((rI p2 20 2).toInt = ((ltc 0 ac).length : Int)) → (hCd p2 21 0 (ltc 0 ac)) → (1 ≤ (ltc 0 ac).length) → ((ltc 0 ac).length ≤ 128) → (∀ x ∈ ac, lKl x) → Q (some (.int (1))) p2) (k1 : ∀ r : Option (List yN), ∀ b : Nat, ∀ z : Int32, ∀ p2 : xH, (hNt [(25, 3), (26, 2), (27, 9999), (28, 9999), (25, 2)] p p2) → (yT (fX p) 0 [] (r, b)) → (r = none ∨ (b : Int) ≠ (rI p 25 2).toInt) → ((rI p2 25 2).toInt = 0) → (∃ u : Int32, u.toInt = b ∧ z = -100 - u) → Q (some (.int z)) p2) : hP ro n d (11, 3, 1, 1, k137) 0 (lv_args 0 [.ref 0]) [] p Q := by
  refine hp_id (ls := [(0, .ref 0)]) ?_
  refine hp_s (pc' := 1) (st' := [.ref 0]) rfl rfl rfl ?_
  refine hp_getr (k := 6) (w := .ref 25) (pc' := 4) rfl rfl rfl rfl rfl ?_
  refine hp_cv (r := 25) (o := 8) (kd := 1) (as := []) (rest := []) (pc' := 7) rfl rfl rfl rfl rfl rfl rfl rfl rfl (fun d1 => ?_)
  refine X_isText (by first | assumption | omega) (by first | assumption | omega) ?_ ?_
  ·
    intro y1 p1 h1 h2 h3 h4
    refine hp_id (st := [.int 1]) ?_
    refine hp_s (pc' := 8) (ls' := [(1, .int 1), (0, .ref 0)]) (st' := []) rfl rfl rfl ?_
    refine hp_s (pc' := 9) (st' := [.ref 0]) rfl rfl rfl ?_
    refine hp_getr (k := 6) (w := .ref 25) (pc' := 12) rfl rfl rfl rfl rfl ?_
    refine hp_get (k := 3) (pc' := 15) (v := (rI p1 25 3)) rfl rfl rfl rfl rfl rfl ?_
    refine hp_s (pc' := 16) (ls' := [(2, .int (rI p1 25 3)), (1, .int 1), (0, .ref 0)]) (st' := []) rfl rfl rfl ?_
    refine hp_s (pc' := 17) (st' := [.int 1]) rfl rfl rfl ?_
    refine hp_go (pc' := 20) rfl rfl rfl ?_
    refine hp_s (pc' := 21) (st' := [.ref 0]) rfl rfl rfl ?_
    refine hp_getr (k := 5) (w := .ref 20) (pc' := 24) rfl rfl rfl rfl rfl ?_
    refine hp_s (pc' := 25) (st' := [.ref 0, .ref 20]) rfl rfl rfl ?_
    refine hp_getr (k := 6) (w := .ref 25) (pc' := 28) rfl rfl rfl rfl rfl ?_
    refine hp_getr (k := 0) (w := .ref 26) (pc' := 31) rfl rfl rfl rfl rfl ?_
    refine hp_cv (r := 20) (o := 3) (kd := 1) (as := [.ref 26]) (rest := []) (pc' := 34) rfl rfl rfl rfl rfl rfl rfl rfl rfl (fun d2 => ?_)
    refine s_copyL ?_
    intro p2 h5 h6 h7
    refine hp_hw (fun w3 => ?_)
    refine hp_id (st := []) ?_
    refine hp_s (pc' := 35) (st' := [.ref 0]) rfl rfl rfl ?_
    refine hp_getr (k := 6) (w := .ref 25) (pc' := 38) rfl rfl rfl rfl rfl ?_
    refine hp_s (pc' := 39) (st' := [.int 0, .ref 25]) rfl rfl rfl ?_
    refine hp_put (k := 2) (pc' := 42) rfl rfl rfl rfl rfl ?_
    intro p3 wp3 ep3
    refine hp_s (pc' := 43) (st' := [.int 1]) rfl rfl rfl ?_
    refine hp_go (pc' := 46) rfl rfl rfl ?_
    refine hp_s (pc' := 47) (st' := [.int 1]) rfl rfl rfl ?_
    refine hp_go (pc' := 54) rfl rfl rfl ?_
    refine hp_ri rfl rfl ?_
    have hZ := XT_law w3 h3 (by omega) h5 h6 h7 ep3
    exact k0 _ _ (by rw [ep3]; exact (hNt.w (hNt.trans (hNt.trans (hNt.refl _ _) (h1.up (by decide))) (h5.up (by decide))) rfl)) h2 hZ.1 hZ.2.1 hZ.2.2 h4 (by have q := h3.2.2.2.2.2.2; omega) h3.2.2.2.2.2.1
  ·
    intro y2 y3 p4 h8 h9 h10 h11
    refine hp_hw (fun wp1 => ?_)
    have hat := h10
    refine hp_id (st := [.int 0]) ?_
    refine hp_s (pc' := 8) (ls' := [(1, .int 0), (0, .ref 0)]) (st' := []) rfl rfl rfl ?_
    refine hp_s (pc' := 9) (st' := [.ref 0]) rfl rfl rfl ?_
    refine hp_getr (k := 6) (w := .ref 25) (pc' := 12) rfl rfl rfl rfl rfl ?_
    refine hp_get (k := 3) (pc' := 15) (v := (rI p4 25 3)) rfl rfl rfl rfl rfl rfl ?_
    refine hp_s (pc' := 16) (ls' := [(2, .int (rI p4 25 3)), (1, .int 0), (0, .ref 0)]) (st' := []) rfl rfl rfl ?_
    refine hp_s (pc' := 17) (st' := [.int 0]) rfl rfl rfl ?_
    refine hp_go (pc' := 34) rfl rfl rfl ?_
    refine hp_s (pc' := 35) (st' := [.ref 0]) rfl rfl rfl ?_
    refine hp_getr (k := 6) (w := .ref 25) (pc' := 38) rfl rfl rfl rfl rfl ?_
    refine hp_s (pc' := 39) (st' := [.int 0, .ref 25]) rfl rfl rfl ?_
    refine hp_put (k := 2) (pc' := 42) rfl rfl rfl rfl rfl ?_
    intro p5 wp5 ep5
    refine hp_s (pc' := 43) (st' := [.int 0]) rfl rfl rfl ?_
    refine hp_go (pc' := 50) rfl rfl rfl ?_
    refine hp_s (pc' := 52) (st' := [.int (-100)]) rfl rfl rfl ?_
    refine hp_s (pc' := 53) (st' := [.int (rI p4 25 3), .int (-100)]) rfl rfl rfl ?_
    refine hp_z (pc' := 54) (e := (-100) - (rI p4 25 3)) (st' := []) rfl rfl rfl ?_
    intro z1 hz1
    have ez1 := i_sub hz1 (show ((-100) : Int32).toInt = (-100) from by decide) (show (rI p4 25 3).toInt = (rI p4 25 3).toInt from rfl)
    refine hp_ri rfl rfl ?_
    exact k1 _ _ _ _ (by rw [ep5]; exact (hNt.w (hNt.trans (hNt.refl _ _) (h8.up (by decide))) rfl)) h9 h11 (by rw [ep5, rI_eq wp1 (by decide)]; decide) ⟨_, h10, hz1⟩
abbrev T_w : List (Nat × Nat) := [(66, 15), (66, 16), (66, 17), (66, 18), (66, 19)]
def gM (p : xH) (f n : Int) (j : Nat) : Int := if (j : Int) < n then (if f < 0 then (rI p 75 j).toInt else (rI p 76 j).toInt) else -1
/-- a line, what W says of it -/
def LNE (p p1 : xH) (W : yN → Prop) : Prop := hNt T_m p p1 ∧ (((rI p1 66 18).toInt = -1 ∧ (rI p1 66 19).toInt = 0 ∧ ∃ (x : yN) (b : Nat), yL (fM p) ((rI p 66 16).toInt.toNat) (some x, b) ∧ (rI p1 66 16).toInt = b ∧ (b : Int) ≤ (rI p 66 17).toInt ∧ W x) ∨ ∃ b : Nat, yL (fM p) ((rI p 66 16).toInt.toNat) (none, b) ∧ (rI p1 66 18).toInt = b)
theorem LNE_1 {p p1 : xH} {v : Int32} (hF : (rI p 66 18).toInt = -1) (hO : (rI p 66 19).toInt = 0) (g : MO 0 p p1 v) (hn : 0 ≤ (rI p1 66 18).toInt ∨ fM p1 ((rI p1 66 16).toInt.toNat) ≠ 63) : LNE p p1 (fun x => x.1 = none ∧ lV (nM p) x.2 v) := by
  obtain ⟨g1, g2⟩ := g
  refine ⟨g1, ?_⟩
  rw [hO, fM_nt g1] at *
  rcases g2 with ⟨a1, a2⟩ | ⟨a1, a2, a3, e, b, a4, a5, a6, a7, a8⟩ | ⟨a1, b, a2, a3⟩
  · exfalso; omega
  · refine Or.inl ⟨a2, by omega, (none, e), b, yL_o1 a4 ?_, a5, a7, rfl, a8⟩
    rcases hn with hn | hn
    · omega
    · rw [i_to a5] at hn; exact hn
  · exact Or.inr ⟨b, yL_b1 a2, a3⟩
theorem LNE_2 {p p1 p2 p3 : xH} {v w : Int32} (hw : hW p1) (hF : (rI p 66 18).toInt = -1) (hO : (rI p 66 19).toInt = 0) (g : MO 0 p p1 v) (h1 : (rI p1 66 18).toInt < 0) (hn : fM p1 ((rI p1 66 16).toInt.toNat) = 63) (hm : Mat p1 p2) (k : MO 0 p2 p3 w) : LNE p p3 (fun x => ∃ c, x.1 = some c ∧ lV (nM p) c v ∧ lV (nM p) x.2 w) := by
  obtain ⟨g1, g2⟩ := g
  obtain ⟨r1, r2, r3⟩ := Mat_r hw hm
  obtain ⟨k1, k2⟩ := k
  have n1 := Mat_nt hm
  refine ⟨(g1.trans n1).trans k1, ?_⟩
  rw [fM_nt g1] at hn
  rcases g2 with ⟨a1, a2⟩ | ⟨a1, a2, a3, e, b, a4, a5, a6, a7, a8⟩ | ⟨a1, b, a2, a3⟩
  · exfalso; omega
  · rw [i_to a5] at hn
    rw [hO] at a4
    have hb1 : (rI p2 66 16).toInt.toNat = b + 1 := by omega
    rw [fM_nt n1, fM_nt g1, nM_nt n1, nM_nt g1, hb1, show (rI p2 66 19).toInt = 0 by omega, n1.int (r := 66) (k := 17) rfl, g1.int (r := 66) (k := 17) rfl] at k2
    rcases k2 with ⟨c1, c2⟩ | ⟨c1, c2, c3, e2, b2, c4, c5, c6, c7, c8⟩ | ⟨c1, b2, c2, c3⟩
    · exfalso; omega
    · exact Or.inl ⟨c2, by omega, (some e, e2), b2, yL_o2 a4 hn c4, c5, c7, e, rfl, a8, c8⟩
    · exact Or.inr ⟨b2, yL_b2 a4 hn c2, c3⟩
  · exfalso; omega
/-- what counts so far: g whether a line did, s its worth -/
def GV (nm : Int → Int32) (ac : List yN) (g s : Int32) : Prop := (g.toInt = 0 ∧ s = 0 ∧ ∀ rest v, lW nm rest v → lW nm (ac ++ rest) v) ∨ (g.toInt = 1 ∧ ∀ rest, lW nm (ac ++ rest) s)
def W1 (nm : Int → Int32) (v : Int32) (x : yN) : Prop := ∀ rest, lW nm (x :: rest) v
def W0 (nm : Int → Int32) (x : yN) : Prop := ∀ rest u, lW nm rest u → lW nm (x :: rest) u
theorem GV_1 {nm : Int → Int32} {ac : List yN} {g s v : Int32} {x : yN} (h : GV nm ac g s) (hg : g.toInt = 0) (hx : W1 nm v x) : GV nm (ac ++ [x]) 1 v := by
  rcases h with ⟨a1, a2, a3⟩ | ⟨a1, a2⟩
  · refine Or.inr ⟨by decide, fun rest => ?_⟩
    rw [List.append_assoc]
    exact a3 _ _ (hx rest)
  · exfalso; omega
theorem GV_0 {nm : Int → Int32} {ac : List yN} {g s : Int32} {x : yN} (h : GV nm ac g s) (hx : W0 nm x) : GV nm (ac ++ [x]) g s := by
  rcases h with ⟨a1, a2, a3⟩ | ⟨a1, a2⟩
  · refine Or.inl ⟨a1, a2, fun rest v hv => ?_⟩
    rw [List.append_assoc]
    exact a3 _ _ (hx rest v hv)
  · refine Or.inr ⟨a1, fun rest => ?_⟩
    rw [List.append_assoc]
    exact a2 _
theorem GV_k {nm : Int → Int32} {ac : List yN} {g s : Int32} {x : yN} (h : GV nm ac g s) (hg : g.toInt ≠ 0) : GV nm (ac ++ [x]) g s := by
  rcases h with ⟨a1, a2, a3⟩ | ⟨a1, a2⟩
  · exfalso; omega
  · refine Or.inr ⟨a1, fun rest => ?_⟩
    rw [List.append_assoc]
    exact a2 _
theorem GV_e {nm : Int → Int32} {ac : List yN} {g s : Int32} (h : GV nm ac g s) : lW nm ac s := by
  rcases h with ⟨a1, a2, a3⟩ | ⟨a1, a2⟩
  · have := a3 [] 0 rfl
    rw [List.append_nil] at this
    rw [a2]
    exact this
  · have := a2 []
    rw [List.append_nil] at this
    exact this
theorem W1_n {nm : Int → Int32} {v : Int32} {x : yN} (h : x.1 = none ∧ lV nm x.2 v) : W1 nm v x := fun rest => by
  obtain ⟨c, e⟩ := x
  have h1 : c = none := h.1
  subst h1
  exact h.2
theorem W1_s {nm : Int → Int32} {u v : Int32} {x : yN} (h : ∃ c, x.1 = some c ∧ lV nm c u ∧ lV nm x.2 v) (hu : u ≠ 0) : W1 nm v x := fun rest => by
  obtain ⟨c, e⟩ := x
  obtain ⟨c', h1, h2, h3⟩ := h
  have h1 : c = some c' := h1
  subst h1
  exact ⟨u, h2, by rw [if_neg hu]; exact h3⟩
theorem W0_s {nm : Int → Int32} {u v : Int32} {x : yN} (h : ∃ c, x.1 = some c ∧ lV nm c u ∧ lV nm x.2 v) (hu : u = 0) : W0 nm x := fun rest w hw => by
  obtain ⟨c, e⟩ := x
  obtain ⟨c', h1, h2, h3⟩ := h
  have h1 : c = some c' := h1
  subst h1
  exact ⟨u, h2, by rw [if_pos hu]; exact hw⟩
theorem LNE_up {p p1 : xH} {W W' : yN → Prop} (h : LNE p p1 W) (k : ∀ x, W x → W' x) : LNE p p1 W' := by
  obtain ⟨h1, h2⟩ := h
  refine ⟨h1, ?_⟩
  rcases h2 with ⟨a1, a2, x, b, a3, a4, a5, a6⟩ | a
  · exact Or.inl ⟨a1, a2, x, b, a3, a4, a5, k x a6⟩
  · exact Or.inr a
/-- on the way through the lines; m whether there is one more -/
def MT (p0 p : xH) (m g s : Int32) : Prop := hNt T_m p0 p ∧ (((rI p 66 18).toInt = -1 ∧ (rI p 66 19).toInt = 0 ∧ ∃ (ac : List yN) (b : Nat), (rI p 66 16).toInt = b ∧ (b : Int) ≤ (rI p0 66 17).toInt ∧ GV (nM p0) ac g s ∧ ((m.toInt = 1 ∧ ∀ r, yT (fM p0) b ac r → yT (fM p0) 0 [] r) ∨ (m.toInt = 0 ∧ yT (fM p0) 0 [] (some ac, b)))) ∨ (m.toInt = 0 ∧ ∃ b : Nat, yT (fM p0) 0 [] (none, b) ∧ (rI p 66 18).toInt = b))
theorem MT_go {p0 p p1 : xH} {m g s : Int32} {W : yN → Prop} (h : MT p0 p m g s) (hm : m.toInt ≠ 0) (k : LNE p p1 W) {g2 s2 : Int32} (hG : (rI p1 66 18).toInt < 0 → ∀ ac x, GV (nM p0) ac g s → W x → GV (nM p0) (ac ++ [x]) g2 s2) : (0 ≤ (rI p1 66 18).toInt ∨ fM p1 ((rI p1 66 16).toInt.toNat) ≠ 59 → MT p0 p1 0 g2 s2) ∧ (∀ p2, hW p1 → (rI p1 66 18).toInt < 0 → fM p1 ((rI p1 66 16).toInt.toNat) = 59 → Mat p1 p2 → MT p0 p2 1 g2 s2) := by
  obtain ⟨h1, h2⟩ := h
  obtain ⟨k1, k2⟩ := k
  rcases h2 with ⟨a1, a2, ac, b, a3, a4, a5, a6⟩ | ⟨a1, -⟩
  · rcases a6 with ⟨a6, a7⟩ | ⟨a6, a7⟩
    · rw [fM_nt h1, i_to a3, h1.int (r := 66) (k := 17) rfl] at k2
      have n := h1.trans k1
      rw [fM_nt n]
      rcases k2 with ⟨c1, c2, x, b2, c3, c4, c5, c6⟩ | ⟨b2, c1, c2⟩
      · rw [i_to c4]
        have hGx := hG (by omega) ac x a5 c6
        refine ⟨fun hn => ⟨n, Or.inl ⟨c1, c2, ac ++ [x], b2, c4, c5, hGx, Or.inr ⟨by decide, a7 _ (yT_s c3 (by rcases hn with hn | hn; omega; exact hn))⟩⟩⟩, fun p2 hw hF h59 hM => ?_⟩
        obtain ⟨r1, r2, r3⟩ := Mat_r hw hM
        have hin := fM_in (p := p0) (j := b2) (by omega)
        exact ⟨n.trans (Mat_nt hM), Or.inl ⟨by omega, by omega, ac ++ [x], b2 + 1, by omega, by omega, hGx, Or.inl ⟨by decide, fun r hr => a7 r (yT_m c3 h59 hr)⟩⟩⟩
      · refine ⟨fun _ => ⟨n, Or.inr ⟨by decide, b2, a7 _ (yT_b c1), c2⟩⟩, fun p2 hw hF h59 hM => ?_⟩
        exfalso; omega
    · exfalso; omega
  · exfalso; omega
def WO (p p2 : xH) (f n : Int) (z : Int32) : Prop := hNt T_w p p2 ∧ ((∃ ac, yT (gM p f n) 0 [] (some ac, n.toNat) ∧ (rI p2 66 18).toInt = -1 ∧ lW (nM p) ac z) ∨ ∃ (r : Option (List yN)) (b : Nat), yT (gM p f n) 0 [] (r, b) ∧ (r = none ∨ (b : Int) ≠ n) ∧ (rI p2 66 18).toInt = b)
theorem MT_p {p0 p : xH} {m g s : Int32} (h0 : hMp p0) (hF0 : (rI p0 66 18).toInt < 0) (h : MT p0 p m g s) (hm : m.toInt ≠ 0) : hMp p ∧ (rI p 66 18).toInt = -1 ∧ (rI p 66 19).toInt = 0 := by
  obtain ⟨h1, h2⟩ := h
  obtain ⟨b1, b2, b3, b4⟩ := h0
  rcases h2 with ⟨a1, a2, ac, b, a3, a4, a5, a6⟩ | ⟨a1, -⟩
  · refine ⟨?_, a1, a2⟩
    unfold hMp
    rw [h1.int (r := 66) (k := 15) rfl, h1.int (r := 66) (k := 17) rfl]
    refine ⟨b1, b2, by omega, ?_⟩
    exact Or.inr (by omega)
  · exfalso; omega
theorem MT_end {p0 p : xH} {m g s : Int32} (h : MT p0 p m g s) (hm : m.toInt = 0) (he : 0 ≤ (rI p0 66 17).toInt) (hF : 0 ≤ (rI p 66 18).toInt ∨ (rI p 66 17).toInt ≤ (rI p 66 16).toInt) : (∃ ac, yT (fM p0) 0 [] (some ac, (rI p0 66 17).toInt.toNat) ∧ (rI p 66 18).toInt = -1 ∧ lW (nM p0) ac s) ∨ ∃ (r : Option (List yN)) (b : Nat), yT (fM p0) 0 [] (r, b) ∧ (r = none ∨ (b : Int) ≠ (rI p0 66 17).toInt) ∧ (rI p 66 18).toInt = b := by
  obtain ⟨h1, h2⟩ := h
  rw [h1.int (r := 66) (k := 17) rfl] at hF
  rcases h2 with ⟨a1, a2, ac, b, a3, a4, a5, a6⟩ | ⟨a1, b, a2, a3⟩
  · rcases a6 with ⟨a6, a7⟩ | ⟨a6, a7⟩
    · exfalso; omega
    · refine Or.inl ⟨ac, ?_, a1, GV_e a5⟩
      rw [show (rI p0 66 17).toInt.toNat = b by omega]
      exact a7
  · exact Or.inr ⟨none, b, a2, Or.inl rfl, a3⟩
theorem MT_bad {p0 p p1 : xH} {m g s : Int32} (hw : hW p) (h : MT p0 p m g s) (hm : m.toInt = 0) (hF : (rI p 66 18).toInt < 0) (hl : (rI p 66 16).toInt < (rI p 66 17).toInt) (e : p1 = wV p 66 18 (.int (rI p 66 16))) : hNt T_m p0 p1 ∧ ∃ (r : Option (List yN)) (b : Nat), yT (fM p0) 0 [] (r, b) ∧ (r = none ∨ (b : Int) ≠ (rI p0 66 17).toInt) ∧ (rI p1 66 18).toInt = b := by
  obtain ⟨h1, h2⟩ := h
  rw [h1.int (r := 66) (k := 17) rfl] at hl
  refine ⟨by rw [e]; exact h1.w rfl, ?_⟩
  rcases h2 with ⟨a1, a2, ac, b, a3, a4, a5, a6⟩ | ⟨a1, b, a2, a3⟩
  · rcases a6 with ⟨a6, a7⟩ | ⟨a6, a7⟩
    · exfalso; omega
    · exact ⟨some ac, b, a7, Or.inr (by omega), by rw [e, rI_eq hw (by decide)]; exact a3⟩
  · exfalso; omega
theorem wO_0 {p p1 p2 p3 p4 p5 : xH} {f n : Int32} (hw : hW p) (w1 : hW p1) (w2 : hW p2) (w3 : hW p3) (w4 : hW p4) (e1 : p1 = wV p 66 15 (.int f)) (e2 : p2 = wV p1 66 16 (.int 0)) (e3 : p3 = wV p2 66 17 (.int n)) (e4 : p4 = wV p3 66 18 (.int (-1))) (e5 : p5 = wV p4 66 19 (.int 0)) (f1 : -1 ≤ f.toInt) (f2 : f.toInt ≤ 0) (n0 : 0 ≤ n.toInt) (n1 : n.toInt ≤ 120) : hMp p5 ∧ fM p5 = gM p f.toInt n.toInt ∧ nM p5 = nM p ∧ (rI p5 66 17).toInt = n.toInt ∧ hNt T_w p p5 ∧ MT p5 p5 1 0 0 := by
  have v15 : (rI p5 66 15).toInt = f.toInt := by rw [e5, rI_ne (fun _ => by decide), e4, rI_ne (fun _ => by decide), e3, rI_ne (fun _ => by decide), e2, rI_ne (fun _ => by decide), e1, rI_eq hw (by decide)]
  have v16 : (rI p5 66 16).toInt = 0 := by rw [e5, rI_ne (fun _ => by decide), e4, rI_ne (fun _ => by decide), e3, rI_ne (fun _ => by decide), e2, rI_eq w1 (by decide)]; decide
  have v17 : (rI p5 66 17).toInt = n.toInt := by rw [e5, rI_ne (fun _ => by decide), e4, rI_ne (fun _ => by decide), e3, rI_eq w2 (by decide)]
  have v18 : (rI p5 66 18).toInt = -1 := by rw [e5, rI_ne (fun _ => by decide), e4, rI_eq w3 (by decide)]; decide
  have v19 : (rI p5 66 19).toInt = 0 := by rw [e5, rI_eq w4 (by decide)]; decide
  have nt : hNt T_w p p5 := by rw [e5, e4, e3, e2, e1]; exact (((((hNt.refl _ _).w rfl).w rfl).w rfl).w rfl).w rfl
  refine ⟨⟨by omega, by omega, by omega, Or.inr (by omega)⟩, ?_, ?_, v17, nt, hNt.refl _ _, Or.inl ⟨v18, v19, [], 0, by omega, by omega, Or.inl ⟨by decide, rfl, fun rest v h => h⟩, Or.inl ⟨by decide, fun r h => h⟩⟩⟩
  · funext j
    unfold fM gM
    rw [v17, v15, nt.int (r := 75) rfl, nt.int (r := 76) rfl]
  · funext j
    unfold nM
    rw [nt.int (r := 77) rfl]
theorem lp_207 {ro : List (List Int32)} {d : Nat} {Q : Option Value → xH → Prop} {f c : Int32} {p0 : xH} (g0 : hMp p0) (gE : 0 ≤ (rI p0 66 17).toInt) (gF : (rI p0 66 18).toInt < 0) (K : ∀ (z : Int32) (p2 : xH), hNt T_m p0 p2 → ((∃ ac, yT (fM p0) 0 [] (some ac, (rI p0 66 17).toInt.toNat) ∧ (rI p2 66 18).toInt = -1 ∧ lW (nM p0) ac z) ∨ ∃ (r : Option (List yN)) (b : Nat), yT (fM p0) 0 [] (r, b) ∧ (r = none ∨ (b : Int) ≠ (rI p0 66 17).toInt) ∧ (rI p2 66 18).toInt = b) → Q (some (.int z)) p2) : ∀ (n : Nat) (m : Int32) (g : Int32) (s : Int32) (v : Int32) (h : Int32) (p : xH), (MT p0 p m g s) → hP ro n d (12, 8, 1, 1, k207) 33 [(5, .int m), (4, .int s), (3, .int g), (6, .int v), (7, .int h), (0, .ref 66), (1, .int f), (2, .int c)] [] p Q := by
  intro n
  induction n with
  | zero => intros; exact hp_0
  | succ n ih =>
    intro m g s v h p hX
    refine hp_hw (fun wp => ?_)
    refine hp_s1 (pc' := 35) (st' := [.int m]) rfl rfl rfl ?_
    refine hp_if (pc' := 38) (t := 107) (a := m.toInt) rfl rfl rfl rfl (fun (h1 : m.toInt = 0) => ?_) (fun (h2 : ¬ (m.toInt = 0)) => ?_)
    ·
      refine hp_s (pc' := 108) (st' := [.ref 66]) rfl rfl rfl ?_
      refine hp_get (k := 18) (pc' := 111) (v := (rI p 66 18)) rfl rfl rfl rfl rfl rfl ?_
      refine hp_if (pc' := 114) (t := 130) (a := (rI p 66 18).toInt) rfl rfl rfl rfl (fun (h3 : 0 ≤ (rI p 66 18).toInt) => ?_) (fun (h4 : ¬ (0 ≤ (rI p 66 18).toInt)) => ?_)
      ·
        refine hp_s (pc' := 132) (st' := [.int s]) rfl rfl rfl ?_
        refine hp_ri rfl rfl ?_
        exact K s p hX.1 (MT_end hX (by omega) gE (by omega))
      ·
        refine hp_s (pc' := 115) (st' := [.ref 66]) rfl rfl rfl ?_
        refine hp_get (k := 16) (pc' := 118) (v := (rI p 66 16)) rfl rfl rfl rfl rfl rfl ?_
        refine hp_s (pc' := 119) (st' := [.ref 66, .int (rI p 66 16)]) rfl rfl rfl ?_
        refine hp_get (k := 17) (pc' := 122) (v := (rI p 66 17)) rfl rfl rfl rfl rfl rfl ?_
        refine hp_ic (pc' := 125) (t := 130) (a := (rI p 66 16).toInt) (b := (rI p 66 17).toInt) rfl rfl rfl rfl rfl (fun (h5 : (rI p 66 17).toInt ≤ (rI p 66 16).toInt) => ?_) (fun (h6 : ¬ ((rI p 66 17).toInt ≤ (rI p 66 16).toInt)) => ?_)
        ·
          refine hp_s (pc' := 132) (st' := [.int s]) rfl rfl rfl ?_
          refine hp_ri rfl rfl ?_
          exact K s p hX.1 (MT_end hX (by omega) gE (by omega))
        ·
          refine hp_s (pc' := 126) (st' := [.ref 66]) rfl rfl rfl ?_
          refine hp_cv (r := 66) (o := 12) (kd := 1) (as := []) (rest := []) (pc' := 129) rfl rfl rfl rfl rfl rfl rfl rfl rfl (fun d1 => ?_)
          refine s_wrong ?_ ?_
          ·
            intro p1 ep1 h7
            skip
            refine hp_id (st := [.int 0]) ?_
            refine hp_ri rfl rfl ?_
            have hZ := MT_bad wp hX (by omega) (by omega) (by omega) ep1
            exact K 0 _ hZ.1 (Or.inr hZ.2)
          ·
            intro p2 ep2 h8
            skip
            refine hp_id (st := [.int 0]) ?_
            refine hp_ri rfl rfl ?_
            exfalso; omega
    ·
      obtain ⟨hTp1, hF0, hO0⟩ := MT_p g0 gF hX (by omega)
      refine hp_s (pc' := 39) (st' := [.ref 66]) rfl rfl rfl ?_
      refine hp_cv (r := 66) (o := 12) (kd := 1) (as := []) (rest := []) (pc' := 42) rfl rfl rfl rfl rfl rfl rfl rfl rfl (fun d2 => ?_)
      refine M_ei (by first | assumption | omega) ?_
      intro y1 p3 h9 h10
      refine hp_hw (fun w1 => ?_)
      have hT1 := MO_p hTp1 h10
      refine hp_id (st := [.int y1]) ?_
      refine hp_s (pc' := 44) (ls' := [(6, .int y1), (5, .int m), (4, .int s), (3, .int g), (7, .int h), (0, .ref 66), (1, .int f), (2, .int c)]) (st' := []) rfl rfl rfl ?_
      refine hp_s (pc' := 45) (st' := [.int 1]) rfl rfl rfl ?_
      refine hp_s (pc' := 47) (ls' := [(7, .int 1), (6, .int y1), (5, .int m), (4, .int s), (3, .int g), (0, .ref 66), (1, .int f), (2, .int c)]) (st' := []) rfl rfl rfl ?_
      refine hp_s (pc' := 48) (st' := [.ref 66]) rfl rfl rfl ?_
      refine hp_s (pc' := 50) (st' := [.int 63, .ref 66]) rfl rfl rfl ?_
      refine hp_cv (r := 66) (o := 12) (kd := 1) (as := [.int 63]) (rest := []) (pc' := 53) rfl rfl rfl rfl rfl rfl rfl rfl rfl (fun d3 => ?_)
      refine s_takes (ci := 63) (by decide) (by first | assumption | omega) (by first | assumption | omega) ?_ ?_
      ·
        intro p4 h11 h12 h13 h14
        have hT2 := Mat_p w1 h14 hT1 (Or.inr (by omega))
        refine hp_id (st := [.int 1]) ?_
        refine hp_go (pc' := 56) rfl rfl rfl ?_
        refine hp_s (pc' := 58) (st' := [.int y1]) rfl rfl rfl ?_
        refine hp_if (pc' := 61) (t := 65) (a := y1.toInt) rfl rfl rfl rfl (fun (h15 : y1.toInt = 0) => ?_) (fun (h16 : ¬ (y1.toInt = 0)) => ?_)
        ·
          refine hp_s (pc' := 66) (st' := [.int 0]) rfl rfl rfl ?_
          refine hp_s (pc' := 68) (ls' := [(7, .int 0), (6, .int y1), (5, .int m), (4, .int s), (3, .int g), (0, .ref 66), (1, .int f), (2, .int c)]) (st' := []) rfl rfl rfl ?_
          refine hp_s (pc' := 69) (st' := [.ref 66]) rfl rfl rfl ?_
          refine hp_cv (r := 66) (o := 12) (kd := 1) (as := []) (rest := []) (pc' := 72) rfl rfl rfl rfl rfl rfl rfl rfl rfl (fun d4 => ?_)
          refine M_ei (by first | assumption | omega) ?_
          intro y2 p5 h17 h18
          refine hp_hw (fun wq => ?_)
          have hL := LNE_2 w1 hF0 hO0 h10 h12 h13 h14 h18
          rw [nM_nt hX.1] at hL
          have hT3 := MO_p hT2 h18
          refine hp_id (st := [.int y2]) ?_
          refine hp_s (pc' := 74) (ls' := [(6, .int y2), (7, .int 0), (5, .int m), (4, .int s), (3, .int g), (0, .ref 66), (1, .int f), (2, .int c)]) (st' := []) rfl rfl rfl ?_
          refine hp_s (pc' := 75) (st' := [.ref 66]) rfl rfl rfl ?_
          refine hp_get (k := 18) (pc' := 78) (v := (rI p5 66 18)) rfl rfl rfl rfl rfl rfl ?_
          refine hp_if (pc' := 81) (t := 96) (a := (rI p5 66 18).toInt) rfl rfl rfl rfl (fun (h19 : 0 ≤ (rI p5 66 18).toInt) => ?_) (fun (h20 : ¬ (0 ≤ (rI p5 66 18).toInt)) => ?_)
          ·
            refine hp_s (pc' := 97) (st' := [.ref 66]) rfl rfl rfl ?_
            refine hp_s (pc' := 99) (st' := [.int 59, .ref 66]) rfl rfl rfl ?_
            refine hp_cv (r := 66) (o := 12) (kd := 1) (as := [.int 59]) (rest := []) (pc' := 102) rfl rfl rfl rfl rfl rfl rfl rfl rfl (fun d5 => ?_)
            refine s_takes (ci := 59) (by decide) (by first | assumption | omega) (by first | assumption | omega) ?_ ?_
            ·
              intro p6 h21 h22 h23 h24
              skip
              refine hp_id (st := [.int 1]) ?_
              refine hp_s (pc' := 104) (ls' := [(5, .int 1), (6, .int y2), (7, .int 0), (4, .int s), (3, .int g), (0, .ref 66), (1, .int f), (2, .int c)]) (st' := []) rfl rfl rfl ?_
              refine hp_go (pc' := 33) rfl rfl rfl ?_
              refine hp_ls (ls' := [(5, .int 1), (4, .int s), (3, .int g), (6, .int y2), (7, .int 0), (0, .ref 66), (1, .int f), (2, .int c)]) rfl rfl ⟨rfl, rfl, rfl, rfl, rfl, rfl, rfl, rfl, trivial⟩ ?_
              have hZ := MT_go hX (by omega) hL (g2 := g) (s2 := s) (fun hneg ac x hg hx => by first | (exfalso; omega) | exact GV_k hg (by omega) | exact GV_1 hg (by omega) (W1_n hx) | exact GV_1 hg (by omega) (W1_s hx (i_nz (by omega))) | exact GV_0 hg (W0_s hx (i_z (by omega))))
              exact ih (1 : Int32) g s y2 (0 : Int32) _ (hZ.2 _ wq h22 h23 h24)
            ·
              intro h25
              skip
              refine hp_id (st := [.int 0]) ?_
              refine hp_s (pc' := 104) (ls' := [(5, .int 0), (6, .int y2), (7, .int 0), (4, .int s), (3, .int g), (0, .ref 66), (1, .int f), (2, .int c)]) (st' := []) rfl rfl rfl ?_
              refine hp_go (pc' := 33) rfl rfl rfl ?_
              refine hp_ls (ls' := [(5, .int 0), (4, .int s), (3, .int g), (6, .int y2), (7, .int 0), (0, .ref 66), (1, .int f), (2, .int c)]) rfl rfl ⟨rfl, rfl, rfl, rfl, rfl, rfl, rfl, rfl, trivial⟩ ?_
              have hZ := MT_go hX (by omega) hL (g2 := g) (s2 := s) (fun hneg ac x hg hx => by first | (exfalso; omega) | exact GV_k hg (by omega) | exact GV_1 hg (by omega) (W1_n hx) | exact GV_1 hg (by omega) (W1_s hx (i_nz (by omega))) | exact GV_0 hg (W0_s hx (i_z (by omega))))
              exact ih (0 : Int32) g s y2 (0 : Int32) _ (hZ.1 h25)
          ·
            refine hp_s (pc' := 83) (st' := [.int 0]) rfl rfl rfl ?_
            refine hp_go (pc' := 96) rfl rfl rfl ?_
            refine hp_s (pc' := 97) (st' := [.ref 66]) rfl rfl rfl ?_
            refine hp_s (pc' := 99) (st' := [.int 59, .ref 66]) rfl rfl rfl ?_
            refine hp_cv (r := 66) (o := 12) (kd := 1) (as := [.int 59]) (rest := []) (pc' := 102) rfl rfl rfl rfl rfl rfl rfl rfl rfl (fun d6 => ?_)
            refine s_takes (ci := 59) (by decide) (by first | assumption | omega) (by first | assumption | omega) ?_ ?_
            ·
              intro p7 h26 h27 h28 h29
              skip
              refine hp_id (st := [.int 1]) ?_
              refine hp_s (pc' := 104) (ls' := [(5, .int 1), (6, .int y2), (7, .int 0), (4, .int s), (3, .int g), (0, .ref 66), (1, .int f), (2, .int c)]) (st' := []) rfl rfl rfl ?_
              refine hp_go (pc' := 33) rfl rfl rfl ?_
              refine hp_ls (ls' := [(5, .int 1), (4, .int s), (3, .int g), (6, .int y2), (7, .int 0), (0, .ref 66), (1, .int f), (2, .int c)]) rfl rfl ⟨rfl, rfl, rfl, rfl, rfl, rfl, rfl, rfl, trivial⟩ ?_
              have hZ := MT_go hX (by omega) hL (g2 := g) (s2 := s) (fun hneg ac x hg hx => by first | (exfalso; omega) | exact GV_k hg (by omega) | exact GV_1 hg (by omega) (W1_n hx) | exact GV_1 hg (by omega) (W1_s hx (i_nz (by omega))) | exact GV_0 hg (W0_s hx (i_z (by omega))))
              exact ih (1 : Int32) g s y2 (0 : Int32) _ (hZ.2 _ wq h27 h28 h29)
            ·
              intro h30
              skip
              refine hp_id (st := [.int 0]) ?_
              refine hp_s (pc' := 104) (ls' := [(5, .int 0), (6, .int y2), (7, .int 0), (4, .int s), (3, .int g), (0, .ref 66), (1, .int f), (2, .int c)]) (st' := []) rfl rfl rfl ?_
              refine hp_go (pc' := 33) rfl rfl rfl ?_
              refine hp_ls (ls' := [(5, .int 0), (4, .int s), (3, .int g), (6, .int y2), (7, .int 0), (0, .ref 66), (1, .int f), (2, .int c)]) rfl rfl ⟨rfl, rfl, rfl, rfl, rfl, rfl, rfl, rfl, trivial⟩ ?_
              have hZ := MT_go hX (by omega) hL (g2 := g) (s2 := s) (fun hneg ac x hg hx => by first | (exfalso; omega) | exact GV_k hg (by omega) | exact GV_1 hg (by omega) (W1_n hx) | exact GV_1 hg (by omega) (W1_s hx (i_nz (by omega))) | exact GV_0 hg (W0_s hx (i_z (by omega))))
              exact ih (0 : Int32) g s y2 (0 : Int32) _ (hZ.1 h30)
        ·
          refine hp_s (pc' := 62) (st' := [.int 1]) rfl rfl rfl ?_
          refine hp_go (pc' := 66) rfl rfl rfl ?_
          refine hp_s (pc' := 68) (ls' := [(7, .int 1), (6, .int y1), (5, .int m), (4, .int s), (3, .int g), (0, .ref 66), (1, .int f), (2, .int c)]) (st' := []) rfl rfl rfl ?_
          refine hp_s (pc' := 69) (st' := [.ref 66]) rfl rfl rfl ?_
          refine hp_cv (r := 66) (o := 12) (kd := 1) (as := []) (rest := []) (pc' := 72) rfl rfl rfl rfl rfl rfl rfl rfl rfl (fun d7 => ?_)
          refine M_ei (by first | assumption | omega) ?_
          intro y3 p8 h31 h32
          refine hp_hw (fun wq => ?_)
          have hL := LNE_2 w1 hF0 hO0 h10 h12 h13 h14 h32
          rw [nM_nt hX.1] at hL
          have hT3 := MO_p hT2 h32
          refine hp_id (st := [.int y3]) ?_
          refine hp_s (pc' := 74) (ls' := [(6, .int y3), (7, .int 1), (5, .int m), (4, .int s), (3, .int g), (0, .ref 66), (1, .int f), (2, .int c)]) (st' := []) rfl rfl rfl ?_
          refine hp_s (pc' := 75) (st' := [.ref 66]) rfl rfl rfl ?_
          refine hp_get (k := 18) (pc' := 78) (v := (rI p8 66 18)) rfl rfl rfl rfl rfl rfl ?_
          refine hp_if (pc' := 81) (t := 96) (a := (rI p8 66 18).toInt) rfl rfl rfl rfl (fun (h33 : 0 ≤ (rI p8 66 18).toInt) => ?_) (fun (h34 : ¬ (0 ≤ (rI p8 66 18).toInt)) => ?_)
          ·
            refine hp_s (pc' := 97) (st' := [.ref 66]) rfl rfl rfl ?_
            refine hp_s (pc' := 99) (st' := [.int 59, .ref 66]) rfl rfl rfl ?_
            refine hp_cv (r := 66) (o := 12) (kd := 1) (as := [.int 59]) (rest := []) (pc' := 102) rfl rfl rfl rfl rfl rfl rfl rfl rfl (fun d8 => ?_)
            refine s_takes (ci := 59) (by decide) (by first | assumption | omega) (by first | assumption | omega) ?_ ?_
            ·
              intro p9 h35 h36 h37 h38
              skip
              refine hp_id (st := [.int 1]) ?_
              refine hp_s (pc' := 104) (ls' := [(5, .int 1), (6, .int y3), (7, .int 1), (4, .int s), (3, .int g), (0, .ref 66), (1, .int f), (2, .int c)]) (st' := []) rfl rfl rfl ?_
              refine hp_go (pc' := 33) rfl rfl rfl ?_
              refine hp_ls (ls' := [(5, .int 1), (4, .int s), (3, .int g), (6, .int y3), (7, .int 1), (0, .ref 66), (1, .int f), (2, .int c)]) rfl rfl ⟨rfl, rfl, rfl, rfl, rfl, rfl, rfl, rfl, trivial⟩ ?_
              have hZ := MT_go hX (by omega) hL (g2 := g) (s2 := s) (fun hneg ac x hg hx => by first | (exfalso; omega) | exact GV_k hg (by omega) | exact GV_1 hg (by omega) (W1_n hx) | exact GV_1 hg (by omega) (W1_s hx (i_nz (by omega))) | exact GV_0 hg (W0_s hx (i_z (by omega))))
              exact ih (1 : Int32) g s y3 (1 : Int32) _ (hZ.2 _ wq h36 h37 h38)
            ·
              intro h39
              skip
              refine hp_id (st := [.int 0]) ?_
              refine hp_s (pc' := 104) (ls' := [(5, .int 0), (6, .int y3), (7, .int 1), (4, .int s), (3, .int g), (0, .ref 66), (1, .int f), (2, .int c)]) (st' := []) rfl rfl rfl ?_
              refine hp_go (pc' := 33) rfl rfl rfl ?_
              refine hp_ls (ls' := [(5, .int 0), (4, .int s), (3, .int g), (6, .int y3), (7, .int 1), (0, .ref 66), (1, .int f), (2, .int c)]) rfl rfl ⟨rfl, rfl, rfl, rfl, rfl, rfl, rfl, rfl, trivial⟩ ?_
              have hZ := MT_go hX (by omega) hL (g2 := g) (s2 := s) (fun hneg ac x hg hx => by first | (exfalso; omega) | exact GV_k hg (by omega) | exact GV_1 hg (by omega) (W1_n hx) | exact GV_1 hg (by omega) (W1_s hx (i_nz (by omega))) | exact GV_0 hg (W0_s hx (i_z (by omega))))
              exact ih (0 : Int32) g s y3 (1 : Int32) _ (hZ.1 h39)
          ·
            refine hp_s (pc' := 83) (st' := [.int 1]) rfl rfl rfl ?_
            refine hp_go (pc' := 86) rfl rfl rfl ?_
            refine hp_s (pc' := 87) (st' := [.int g]) rfl rfl rfl ?_
            refine hp_if (pc' := 90) (t := 96) (a := g.toInt) rfl rfl rfl rfl (fun (h40 : g.toInt ≠ 0) => ?_) (fun (h41 : ¬ (g.toInt ≠ 0)) => ?_)
            ·
              refine hp_s (pc' := 97) (st' := [.ref 66]) rfl rfl rfl ?_
              refine hp_s (pc' := 99) (st' := [.int 59, .ref 66]) rfl rfl rfl ?_
              refine hp_cv (r := 66) (o := 12) (kd := 1) (as := [.int 59]) (rest := []) (pc' := 102) rfl rfl rfl rfl rfl rfl rfl rfl rfl (fun d9 => ?_)
              refine s_takes (ci := 59) (by decide) (by first | assumption | omega) (by first | assumption | omega) ?_ ?_
              ·
                intro p10 h42 h43 h44 h45
                skip
                refine hp_id (st := [.int 1]) ?_
                refine hp_s (pc' := 104) (ls' := [(5, .int 1), (6, .int y3), (7, .int 1), (4, .int s), (3, .int g), (0, .ref 66), (1, .int f), (2, .int c)]) (st' := []) rfl rfl rfl ?_
                refine hp_go (pc' := 33) rfl rfl rfl ?_
                refine hp_ls (ls' := [(5, .int 1), (4, .int s), (3, .int g), (6, .int y3), (7, .int 1), (0, .ref 66), (1, .int f), (2, .int c)]) rfl rfl ⟨rfl, rfl, rfl, rfl, rfl, rfl, rfl, rfl, trivial⟩ ?_
                have hZ := MT_go hX (by omega) hL (g2 := g) (s2 := s) (fun hneg ac x hg hx => by first | (exfalso; omega) | exact GV_k hg (by omega) | exact GV_1 hg (by omega) (W1_n hx) | exact GV_1 hg (by omega) (W1_s hx (i_nz (by omega))) | exact GV_0 hg (W0_s hx (i_z (by omega))))
                exact ih (1 : Int32) g s y3 (1 : Int32) _ (hZ.2 _ wq h43 h44 h45)
              ·
                intro h46
                skip
                refine hp_id (st := [.int 0]) ?_
                refine hp_s (pc' := 104) (ls' := [(5, .int 0), (6, .int y3), (7, .int 1), (4, .int s), (3, .int g), (0, .ref 66), (1, .int f), (2, .int c)]) (st' := []) rfl rfl rfl ?_
                refine hp_go (pc' := 33) rfl rfl rfl ?_
                refine hp_ls (ls' := [(5, .int 0), (4, .int s), (3, .int g), (6, .int y3), (7, .int 1), (0, .ref 66), (1, .int f), (2, .int c)]) rfl rfl ⟨rfl, rfl, rfl, rfl, rfl, rfl, rfl, rfl, trivial⟩ ?_
                have hZ := MT_go hX (by omega) hL (g2 := g) (s2 := s) (fun hneg ac x hg hx => by first | (exfalso; omega) | exact GV_k hg (by omega) | exact GV_1 hg (by omega) (W1_n hx) | exact GV_1 hg (by omega) (W1_s hx (i_nz (by omega))) | exact GV_0 hg (W0_s hx (i_z (by omega))))
                exact ih (0 : Int32) g s y3 (1 : Int32) _ (hZ.1 h46)
            ·
              refine hp_s (pc' := 91) (st' := [.int 1]) rfl rfl rfl ?_
              refine hp_s (pc' := 92) (ls' := [(3, .int 1), (6, .int y3), (7, .int 1), (5, .int m), (4, .int s), (0, .ref 66), (1, .int f), (2, .int c)]) (st' := []) rfl rfl rfl ?_
              refine hp_s (pc' := 94) (st' := [.int y3]) rfl rfl rfl ?_
              refine hp_s (pc' := 96) (ls' := [(4, .int y3), (3, .int 1), (6, .int y3), (7, .int 1), (5, .int m), (0, .ref 66), (1, .int f), (2, .int c)]) (st' := []) rfl rfl rfl ?_
              refine hp_s (pc' := 97) (st' := [.ref 66]) rfl rfl rfl ?_
              refine hp_s (pc' := 99) (st' := [.int 59, .ref 66]) rfl rfl rfl ?_
              refine hp_cv (r := 66) (o := 12) (kd := 1) (as := [.int 59]) (rest := []) (pc' := 102) rfl rfl rfl rfl rfl rfl rfl rfl rfl (fun d10 => ?_)
              refine s_takes (ci := 59) (by decide) (by first | assumption | omega) (by first | assumption | omega) ?_ ?_
              ·
                intro p11 h47 h48 h49 h50
                skip
                refine hp_id (st := [.int 1]) ?_
                refine hp_s (pc' := 104) (ls' := [(5, .int 1), (4, .int y3), (3, .int 1), (6, .int y3), (7, .int 1), (0, .ref 66), (1, .int f), (2, .int c)]) (st' := []) rfl rfl rfl ?_
                refine hp_go (pc' := 33) rfl rfl rfl ?_
                have hZ := MT_go hX (by omega) hL (g2 := (1 : Int32)) (s2 := y3) (fun hneg ac x hg hx => by first | (exfalso; omega) | exact GV_k hg (by omega) | exact GV_1 hg (by omega) (W1_n hx) | exact GV_1 hg (by omega) (W1_s hx (i_nz (by omega))) | exact GV_0 hg (W0_s hx (i_z (by omega))))
                exact ih (1 : Int32) (1 : Int32) y3 y3 (1 : Int32) _ (hZ.2 _ wq h48 h49 h50)
              ·
                intro h51
                skip
                refine hp_id (st := [.int 0]) ?_
                refine hp_s (pc' := 104) (ls' := [(5, .int 0), (4, .int y3), (3, .int 1), (6, .int y3), (7, .int 1), (0, .ref 66), (1, .int f), (2, .int c)]) (st' := []) rfl rfl rfl ?_
                refine hp_go (pc' := 33) rfl rfl rfl ?_
                have hZ := MT_go hX (by omega) hL (g2 := (1 : Int32)) (s2 := y3) (fun hneg ac x hg hx => by first | (exfalso; omega) | exact GV_k hg (by omega) | exact GV_1 hg (by omega) (W1_n hx) | exact GV_1 hg (by omega) (W1_s hx (i_nz (by omega))) | exact GV_0 hg (W0_s hx (i_z (by omega))))
                exact ih (0 : Int32) (1 : Int32) y3 y3 (1 : Int32) _ (hZ.1 h51)
      ·
        intro h52
        have hL := LNE_1 hF0 hO0 h10 h52
        rw [nM_nt hX.1] at hL
        have wq := w1
        refine hp_id (st := [.int 0]) ?_
        refine hp_go (pc' := 74) rfl rfl rfl ?_
        refine hp_s (pc' := 75) (st' := [.ref 66]) rfl rfl rfl ?_
        refine hp_get (k := 18) (pc' := 78) (v := (rI p3 66 18)) rfl rfl rfl rfl rfl rfl ?_
        refine hp_if (pc' := 81) (t := 96) (a := (rI p3 66 18).toInt) rfl rfl rfl rfl (fun (h53 : 0 ≤ (rI p3 66 18).toInt) => ?_) (fun (h54 : ¬ (0 ≤ (rI p3 66 18).toInt)) => ?_)
        ·
          refine hp_s (pc' := 97) (st' := [.ref 66]) rfl rfl rfl ?_
          refine hp_s (pc' := 99) (st' := [.int 59, .ref 66]) rfl rfl rfl ?_
          refine hp_cv (r := 66) (o := 12) (kd := 1) (as := [.int 59]) (rest := []) (pc' := 102) rfl rfl rfl rfl rfl rfl rfl rfl rfl (fun d11 => ?_)
          refine s_takes (ci := 59) (by decide) (by first | assumption | omega) (by first | assumption | omega) ?_ ?_
          ·
            intro p12 h55 h56 h57 h58
            skip
            refine hp_id (st := [.int 1]) ?_
            refine hp_s (pc' := 104) (ls' := [(5, .int 1), (7, .int 1), (6, .int y1), (4, .int s), (3, .int g), (0, .ref 66), (1, .int f), (2, .int c)]) (st' := []) rfl rfl rfl ?_
            refine hp_go (pc' := 33) rfl rfl rfl ?_
            refine hp_ls (ls' := [(5, .int 1), (4, .int s), (3, .int g), (6, .int y1), (7, .int 1), (0, .ref 66), (1, .int f), (2, .int c)]) rfl rfl ⟨rfl, rfl, rfl, rfl, rfl, rfl, rfl, rfl, trivial⟩ ?_
            have hZ := MT_go hX (by omega) hL (g2 := g) (s2 := s) (fun hneg ac x hg hx => by first | (exfalso; omega) | exact GV_k hg (by omega) | exact GV_1 hg (by omega) (W1_n hx) | exact GV_1 hg (by omega) (W1_s hx (i_nz (by omega))) | exact GV_0 hg (W0_s hx (i_z (by omega))))
            exact ih (1 : Int32) g s y1 (1 : Int32) _ (hZ.2 _ wq h56 h57 h58)
          ·
            intro h59
            skip
            refine hp_id (st := [.int 0]) ?_
            refine hp_s (pc' := 104) (ls' := [(5, .int 0), (7, .int 1), (6, .int y1), (4, .int s), (3, .int g), (0, .ref 66), (1, .int f), (2, .int c)]) (st' := []) rfl rfl rfl ?_
            refine hp_go (pc' := 33) rfl rfl rfl ?_
            refine hp_ls (ls' := [(5, .int 0), (4, .int s), (3, .int g), (6, .int y1), (7, .int 1), (0, .ref 66), (1, .int f), (2, .int c)]) rfl rfl ⟨rfl, rfl, rfl, rfl, rfl, rfl, rfl, rfl, trivial⟩ ?_
            have hZ := MT_go hX (by omega) hL (g2 := g) (s2 := s) (fun hneg ac x hg hx => by first | (exfalso; omega) | exact GV_k hg (by omega) | exact GV_1 hg (by omega) (W1_n hx) | exact GV_1 hg (by omega) (W1_s hx (i_nz (by omega))) | exact GV_0 hg (W0_s hx (i_z (by omega))))
            exact ih (0 : Int32) g s y1 (1 : Int32) _ (hZ.1 h59)
        ·
          refine hp_s (pc' := 83) (st' := [.int 1]) rfl rfl rfl ?_
          refine hp_go (pc' := 86) rfl rfl rfl ?_
          refine hp_s (pc' := 87) (st' := [.int g]) rfl rfl rfl ?_
          refine hp_if (pc' := 90) (t := 96) (a := g.toInt) rfl rfl rfl rfl (fun (h60 : g.toInt ≠ 0) => ?_) (fun (h61 : ¬ (g.toInt ≠ 0)) => ?_)
          ·
            refine hp_s (pc' := 97) (st' := [.ref 66]) rfl rfl rfl ?_
            refine hp_s (pc' := 99) (st' := [.int 59, .ref 66]) rfl rfl rfl ?_
            refine hp_cv (r := 66) (o := 12) (kd := 1) (as := [.int 59]) (rest := []) (pc' := 102) rfl rfl rfl rfl rfl rfl rfl rfl rfl (fun d12 => ?_)
            refine s_takes (ci := 59) (by decide) (by first | assumption | omega) (by first | assumption | omega) ?_ ?_
            ·
              intro p13 h62 h63 h64 h65
              skip
              refine hp_id (st := [.int 1]) ?_
              refine hp_s (pc' := 104) (ls' := [(5, .int 1), (7, .int 1), (6, .int y1), (4, .int s), (3, .int g), (0, .ref 66), (1, .int f), (2, .int c)]) (st' := []) rfl rfl rfl ?_
              refine hp_go (pc' := 33) rfl rfl rfl ?_
              refine hp_ls (ls' := [(5, .int 1), (4, .int s), (3, .int g), (6, .int y1), (7, .int 1), (0, .ref 66), (1, .int f), (2, .int c)]) rfl rfl ⟨rfl, rfl, rfl, rfl, rfl, rfl, rfl, rfl, trivial⟩ ?_
              have hZ := MT_go hX (by omega) hL (g2 := g) (s2 := s) (fun hneg ac x hg hx => by first | (exfalso; omega) | exact GV_k hg (by omega) | exact GV_1 hg (by omega) (W1_n hx) | exact GV_1 hg (by omega) (W1_s hx (i_nz (by omega))) | exact GV_0 hg (W0_s hx (i_z (by omega))))
              exact ih (1 : Int32) g s y1 (1 : Int32) _ (hZ.2 _ wq h63 h64 h65)
            ·
              intro h66
              skip
              refine hp_id (st := [.int 0]) ?_
              refine hp_s (pc' := 104) (ls' := [(5, .int 0), (7, .int 1), (6, .int y1), (4, .int s), (3, .int g), (0, .ref 66), (1, .int f), (2, .int c)]) (st' := []) rfl rfl rfl ?_
              refine hp_go (pc' := 33) rfl rfl rfl ?_
              refine hp_ls (ls' := [(5, .int 0), (4, .int s), (3, .int g), (6, .int y1), (7, .int 1), (0, .ref 66), (1, .int f), (2, .int c)]) rfl rfl ⟨rfl, rfl, rfl, rfl, rfl, rfl, rfl, rfl, trivial⟩ ?_
              have hZ := MT_go hX (by omega) hL (g2 := g) (s2 := s) (fun hneg ac x hg hx => by first | (exfalso; omega) | exact GV_k hg (by omega) | exact GV_1 hg (by omega) (W1_n hx) | exact GV_1 hg (by omega) (W1_s hx (i_nz (by omega))) | exact GV_0 hg (W0_s hx (i_z (by omega))))
              exact ih (0 : Int32) g s y1 (1 : Int32) _ (hZ.1 h66)
          ·
            refine hp_s (pc' := 91) (st' := [.int 1]) rfl rfl rfl ?_
            refine hp_s (pc' := 92) (ls' := [(3, .int 1), (7, .int 1), (6, .int y1), (5, .int m), (4, .int s), (0, .ref 66), (1, .int f), (2, .int c)]) (st' := []) rfl rfl rfl ?_
            refine hp_s (pc' := 94) (st' := [.int y1]) rfl rfl rfl ?_
            refine hp_s (pc' := 96) (ls' := [(4, .int y1), (3, .int 1), (7, .int 1), (6, .int y1), (5, .int m), (0, .ref 66), (1, .int f), (2, .int c)]) (st' := []) rfl rfl rfl ?_
            refine hp_s (pc' := 97) (st' := [.ref 66]) rfl rfl rfl ?_
            refine hp_s (pc' := 99) (st' := [.int 59, .ref 66]) rfl rfl rfl ?_
            refine hp_cv (r := 66) (o := 12) (kd := 1) (as := [.int 59]) (rest := []) (pc' := 102) rfl rfl rfl rfl rfl rfl rfl rfl rfl (fun d13 => ?_)
            refine s_takes (ci := 59) (by decide) (by first | assumption | omega) (by first | assumption | omega) ?_ ?_
            ·
              intro p14 h67 h68 h69 h70
              skip
              refine hp_id (st := [.int 1]) ?_
              refine hp_s (pc' := 104) (ls' := [(5, .int 1), (4, .int y1), (3, .int 1), (7, .int 1), (6, .int y1), (0, .ref 66), (1, .int f), (2, .int c)]) (st' := []) rfl rfl rfl ?_
              refine hp_go (pc' := 33) rfl rfl rfl ?_
              refine hp_ls (ls' := [(5, .int 1), (4, .int y1), (3, .int 1), (6, .int y1), (7, .int 1), (0, .ref 66), (1, .int f), (2, .int c)]) rfl rfl ⟨rfl, rfl, rfl, rfl, rfl, rfl, rfl, rfl, trivial⟩ ?_
              have hZ := MT_go hX (by omega) hL (g2 := (1 : Int32)) (s2 := y1) (fun hneg ac x hg hx => by first | (exfalso; omega) | exact GV_k hg (by omega) | exact GV_1 hg (by omega) (W1_n hx) | exact GV_1 hg (by omega) (W1_s hx (i_nz (by omega))) | exact GV_0 hg (W0_s hx (i_z (by omega))))
              exact ih (1 : Int32) (1 : Int32) y1 y1 (1 : Int32) _ (hZ.2 _ wq h68 h69 h70)
            ·
              intro h71
              skip
              refine hp_id (st := [.int 0]) ?_
              refine hp_s (pc' := 104) (ls' := [(5, .int 0), (4, .int y1), (3, .int 1), (7, .int 1), (6, .int y1), (0, .ref 66), (1, .int f), (2, .int c)]) (st' := []) rfl rfl rfl ?_
              refine hp_go (pc' := 33) rfl rfl rfl ?_
              refine hp_ls (ls' := [(5, .int 0), (4, .int y1), (3, .int 1), (6, .int y1), (7, .int 1), (0, .ref 66), (1, .int f), (2, .int c)]) rfl rfl ⟨rfl, rfl, rfl, rfl, rfl, rfl, rfl, rfl, trivial⟩ ?_
              have hZ := MT_go hX (by omega) hL (g2 := (1 : Int32)) (s2 := y1) (fun hneg ac x hg hx => by first | (exfalso; omega) | exact GV_k hg (by omega) | exact GV_1 hg (by omega) (W1_n hx) | exact GV_1 hg (by omega) (W1_s hx (i_nz (by omega))) | exact GV_0 hg (W0_s hx (i_z (by omega))))
              exact ih (0 : Int32) (1 : Int32) y1 y1 (1 : Int32) _ (hZ.1 h71)
theorem s_workOut {ro : List (List Int32)} {n d : Nat} {p : xH} {Q : Option Value → xH → Prop} {f : Int32} {fi : Int} {c : Int32} {ci : Int} (hf : f.toInt = fi) (hc : c.toInt = ci) (pre0 : -1 ≤ fi) (pre1 : fi ≤ 0) (pre2 : 0 ≤ ci) (pre3 : ci ≤ 120) (k0 : ∀ z : Int32, ∀ p2 : xH, (hNt T_w p p2) → (WO p p2 fi ci z) → Q (some (.int z)) p2) : hP ro n d (12, 8, 1, 1, k207) 0 (lv_args 0 [.ref 66, .int f, .int c]) [] p Q := by
  subst hf
  subst hc
  refine hp_id (ls := [(0, .ref 66), (1, .int f), (2, .int c)]) ?_
  refine hp_hw (fun wp => ?_)
  refine hp_s (pc' := 1) (st' := [.ref 66]) rfl rfl rfl ?_
  refine hp_s (pc' := 2) (st' := [.int f, .ref 66]) rfl rfl rfl ?_
  refine hp_put (k := 15) (pc' := 5) rfl rfl rfl rfl rfl ?_
  intro p1 wp1 ep1
  refine hp_s (pc' := 6) (st' := [.ref 66]) rfl rfl rfl ?_
  refine hp_s (pc' := 7) (st' := [.int 0, .ref 66]) rfl rfl rfl ?_
  refine hp_put (k := 16) (pc' := 10) rfl rfl rfl rfl rfl ?_
  intro p2 wp2 ep2
  refine hp_s (pc' := 11) (st' := [.ref 66]) rfl rfl rfl ?_
  refine hp_s (pc' := 12) (st' := [.int c, .ref 66]) rfl rfl rfl ?_
  refine hp_put (k := 17) (pc' := 15) rfl rfl rfl rfl rfl ?_
  intro p3 wp3 ep3
  refine hp_s (pc' := 16) (st' := [.ref 66]) rfl rfl rfl ?_
  refine hp_s (pc' := 17) (st' := [.int (-1), .ref 66]) rfl rfl rfl ?_
  refine hp_put (k := 18) (pc' := 20) rfl rfl rfl rfl rfl ?_
  intro p4 wp4 ep4
  refine hp_s (pc' := 21) (st' := [.ref 66]) rfl rfl rfl ?_
  refine hp_s (pc' := 22) (st' := [.int 0, .ref 66]) rfl rfl rfl ?_
  refine hp_put (k := 19) (pc' := 25) rfl rfl rfl rfl rfl ?_
  intro p5 wp5 ep5
  refine hp_s (pc' := 26) (st' := [.int 0]) rfl rfl rfl ?_
  refine hp_s (pc' := 27) (ls' := [(3, .int 0), (0, .ref 66), (1, .int f), (2, .int c)]) (st' := []) rfl rfl rfl ?_
  refine hp_s (pc' := 28) (st' := [.int 0]) rfl rfl rfl ?_
  refine hp_s (pc' := 30) (ls' := [(4, .int 0), (3, .int 0), (0, .ref 66), (1, .int f), (2, .int c)]) (st' := []) rfl rfl rfl ?_
  refine hp_s (pc' := 31) (st' := [.int 1]) rfl rfl rfl ?_
  refine hp_s (pc' := 33) (ls' := [(5, .int 1), (4, .int 0), (3, .int 0), (0, .ref 66), (1, .int f), (2, .int c)]) (st' := []) rfl rfl rfl ?_
  refine hp_ls (ls' := [(5, .int 1), (4, .int 0), (3, .int 0), (6, .int 0), (7, .int 0), (0, .ref 66), (1, .int f), (2, .int c)]) rfl rfl ⟨rfl, rfl, rfl, rfl, rfl, rfl, trivial⟩ ?_
  obtain ⟨q1, q2, q3, q4, q5, q6⟩ := wO_0 wp1 wp2 wp3 wp4 wp5 ep1 ep2 ep3 ep4 ep5 (by omega) (by omega) (by omega) (by omega)
  refine lp_207 q1 (by omega) (by have q7 := q6.2; rcases q7 with ⟨q8, q9⟩ | ⟨q8, q9⟩; omega; exact absurd q8 (by decide)) (fun z p2 h1 h2 => ?_) n 1 0 0 0 0 _ q6
  rw [q2, q3, q4] at h2
  exact k0 z p2 (q5.trans (h1.up (by decide))) ⟨q5.trans (h1.up (by decide)), h2⟩
theorem lp_208 {ro : List (List Int32)} {d : Nat} {Q : Option Value → xH → Prop} {c v : Int32} {p0 : xH} (gc : c.toInt ≤ 120) (K : ∀ p2 : xH, hNt [(66, 14), (76, 9999)] p0 p2 → rI p2 66 14 = c → (∀ j : Nat, (j : Int) < c.toInt → rV p2 76 j = rV p0 75 j) → Q (some (.int 1)) p2) : ∀ (n : Nat) (k : Int32) (p : xH), (0 ≤ k.toInt) → (k.toInt ≤ c.toInt ∨ k.toInt = 0) → (hNt [(76, 9999)] p0 p) → (∀ j, j < k.toInt.toNat → rV p 76 j = rV p0 75 j) → hP ro n d (12, 4, 1, 1, k208) 37 [(3, .int k), (2, .int c), (1, .int v), (0, .ref 66)] [] p Q := by
  intro n
  induction n with
  | zero => intros; exact hp_0
  | succ n ih =>
    intro k p h1 h2 hN hc
    refine hp_hw (fun wp => ?_)
    refine hp_s1 (pc' := 38) (st' := [.int k]) rfl rfl rfl ?_
    refine hp_s (pc' := 39) (st' := [.int c, .int k]) rfl rfl rfl ?_
    refine hp_ic (pc' := 42) (t := 60) (a := k.toInt) (b := c.toInt) rfl rfl rfl rfl rfl (fun (h1 : c.toInt ≤ k.toInt) => ?_) (fun (h2 : ¬ (c.toInt ≤ k.toInt)) => ?_)
    ·
      refine hp_s (pc' := 61) (st' := [.ref 66]) rfl rfl rfl ?_
      refine hp_s (pc' := 62) (st' := [.int c, .ref 66]) rfl rfl rfl ?_
      refine hp_put (k := 14) (pc' := 65) rfl rfl rfl rfl rfl ?_
      intro p1 wp1 ep1
      refine hp_s (pc' := 66) (st' := [.int 1]) rfl rfl rfl ?_
      refine hp_ri rfl rfl ?_
      refine K _ (by rw [ep1]; exact (hN.up (by decide)).w rfl) (by rw [ep1, rI_eq wp (by decide)]) (fun j hj => ?_)
      rw [ep1, rV_ne (fun z => absurd z (by decide))]
      exact hc j (by omega)
    ·
      refine hp_s (pc' := 43) (st' := [.ref 66]) rfl rfl rfl ?_
      refine hp_getr (k := 13) (w := .ref 76) (pc' := 46) rfl rfl rfl rfl rfl ?_
      refine hp_s (pc' := 47) (st' := [.int k, .ref 76]) rfl rfl rfl ?_
      refine hp_s (pc' := 48) (st' := [.ref 66, .int k, .ref 76]) rfl rfl rfl ?_
      refine hp_getr (k := 11) (w := .ref 75) (pc' := 51) rfl rfl rfl rfl rfl ?_
      refine hp_s (pc' := 52) (st' := [.int k, .ref 75, .int k, .ref 76]) rfl rfl rfl ?_
      refine hp_ld (t := 100) (v := (rI p 75 k.toInt.toNat)) rfl (.inl rfl) rfl rfl rfl ?_
      intro (g1a : 0 ≤ k.toInt) (g1b : k.toInt < 120)
      refine hp_st (t := 100) rfl (.inl rfl) rfl rfl ?_
      intro p2 wp2 (p2a : 0 ≤ k.toInt) (p2b : k.toInt < 120) ep2
      refine hp_inc (L := fun z => [(3, .int z), (2, .int c), (1, .int v), (0, .ref 66)]) (pc' := 57) rfl rfl rfl (fun _ => rfl) rfl ?_
      intro z1 hz1
      have ez1 := i_add hz1 (show k.toInt = k.toInt from rfl) (show (Int32.ofInt 1).toInt = 1 from by decide)
      refine hp_go (pc' := 37) rfl rfl rfl ?_
      refine ih z1 _ (by omega) (by omega) (by rw [ep2]; exact hN.w rfl) (fun j hj => ?_)
      rw [ep2, rV_w wp (by show _ < 120; omega)]
      by_cases g : j = k.toInt.toNat
      · rw [if_pos g, g, ← hN 75 _ rfl, rV_int wp (r := 75) rfl (by decide) (by show _ < 120; omega)]
      · rw [if_neg g]; exact hc j (by omega)
theorem M_law {ro : List (List Int32)} {n d : Nat} {p : xH} {Q : Option Value → xH → Prop}  (pre0 : 0 ≤ (rI p 66 12).toInt) (pre1 : (rI p 66 12).toInt ≤ 120) (k0 : ∀ ac : List yN, ∀ p2 : xH, (hNt [(66, 15), (66, 16), (66, 17), (66, 18), (66, 19), (66, 12), (66, 14), (76, 9999)] p p2) → (yT (gM p (-1) (rI p 66 12).toInt) 0 [] (some ac, (rI p 66 12).toInt.toNat)) → ((rI p2 66 12).toInt = 0) → ((rI p2 66 14).toInt = (rI p 66 12).toInt) → (∀ j : Nat, (j : Int) < (rI p 66 12).toInt → rV p2 76 j = rV p 75 j) → Q (some (.int (1))) p2) (k1 : ∀ r : Option (List yN), ∀ b : Nat, ∀ z : Int32, ∀ p2 : xH, (hNt [(66, 15), (66, 16), (66, 17), (66, 18), (66, 19), (66, 12)] p p2) → (yT (gM p (-1) (rI p 66 12).toInt) 0 [] (r, b)) → (r = none ∨ (b : Int) ≠ (rI p 66 12).toInt) → ((rI p2 66 12).toInt = 0) → (∃ u : Int32, u.toInt = b ∧ z = -100 - u) → Q (some (.int z)) p2) : hP ro n d (12, 4, 1, 1, k208) 0 (lv_args 0 [.ref 66]) [] p Q := by
  refine hp_id (ls := [(0, .ref 66)]) ?_
  refine hp_s (pc' := 1) (st' := [.ref 66]) rfl rfl rfl ?_
  refine hp_s (pc' := 2) (st' := [.int (-1), .ref 66]) rfl rfl rfl ?_
  refine hp_s (pc' := 3) (st' := [.ref 66, .int (-1), .ref 66]) rfl rfl rfl ?_
  refine hp_get (k := 12) (pc' := 6) (v := (rI p 66 12)) rfl rfl rfl rfl rfl rfl ?_
  refine hp_cv (r := 66) (o := 12) (kd := 1) (as := [.int (-1), .int (rI p 66 12)]) (rest := []) (pc' := 9) rfl rfl rfl rfl rfl rfl rfl rfl rfl (fun d1 => ?_)
  refine s_workOut (fi := (-1)) (by decide) (ci := (rI p 66 12).toInt) rfl (by first | assumption | omega) (by first | assumption | omega) (by first | assumption | omega) (by first | assumption | omega) ?_
  intro y1 p1 h1 h2
  refine hp_hw (fun wq => ?_)
  refine hp_id (st := [.int y1]) ?_
  refine hp_s (pc' := 10) (ls' := [(1, .int y1), (0, .ref 66)]) (st' := []) rfl rfl rfl ?_
  refine hp_s (pc' := 11) (st' := [.ref 66]) rfl rfl rfl ?_
  refine hp_get (k := 12) (pc' := 14) (v := (rI p 66 12)) rfl rfl rfl rfl rfl (by rw [h1.int (r := 66) (k := 12) rfl]) ?_
  refine hp_s (pc' := 15) (ls' := [(2, .int (rI p 66 12)), (1, .int y1), (0, .ref 66)]) (st' := []) rfl rfl rfl ?_
  refine hp_s (pc' := 16) (st' := [.ref 66]) rfl rfl rfl ?_
  refine hp_s (pc' := 17) (st' := [.int 0, .ref 66]) rfl rfl rfl ?_
  refine hp_put (k := 12) (pc' := 20) rfl rfl rfl rfl rfl ?_
  intro p2 wp2 ep2
  refine hp_s (pc' := 21) (st' := [.ref 66]) rfl rfl rfl ?_
  refine hp_get (k := 18) (pc' := 24) (v := (rI p1 66 18)) rfl rfl rfl rfl rfl (by rw [ep2, rI_ne (fun _ => by decide)]) ?_
  refine hp_if (pc' := 27) (t := 35) (a := (rI p1 66 18).toInt) rfl rfl rfl rfl (fun (h3 : (rI p1 66 18).toInt < 0) => ?_) (fun (h4 : ¬ ((rI p1 66 18).toInt < 0)) => ?_)
  ·
    refine hp_s (pc' := 36) (st' := [.int 0]) rfl rfl rfl ?_
    refine hp_s (pc' := 37) (ls' := [(3, .int 0), (2, .int (rI p 66 12)), (1, .int y1), (0, .ref 66)]) (st' := []) rfl rfl rfl ?_
    refine lp_208 (p0 := p2) (c := (rI p 66 12)) (by omega) (fun pz j1 j2 j3 => ?_) n 0 _ (by decide) (by have h00 : (0 : Int32).toInt = 0 := (by decide); omega) (hNt.refl _ _) (fun j hj => absurd hj (by have h00 : (0 : Int32).toInt = 0 := (by decide); omega))
    have hn : hNt [(66, 15), (66, 16), (66, 17), (66, 18), (66, 19), (66, 12), (66, 14), (76, 9999)] p pz := hNt.trans (hNt.up (show hNt [(66, 15), (66, 16), (66, 17), (66, 18), (66, 19), (66, 12)] p p2 from (by rw [ep2]; exact (hNt.w (hNt.trans (hNt.refl _ _) (h1.up (by decide))) rfl))) (by decide)) (j1.up (by decide))
    rcases h2.2 with ⟨ac, a1, a2, a3⟩ | ⟨r, b, a1, a2, a3⟩
    · refine k0 ac pz hn a1 (by rw [j1.int (r := 66) (k := 12) rfl, ep2, rI_eq wq (by decide)]; decide) (by rw [j2]) (fun j hj => ?_)
      rw [j3 j (by omega), ep2, rV_ne (fun z => absurd z (by decide)), h1 75 j rfl]
    · exfalso; omega
  ·
    refine hp_s (pc' := 29) (st' := [.int (-100)]) rfl rfl rfl ?_
    refine hp_s (pc' := 30) (st' := [.ref 66, .int (-100)]) rfl rfl rfl ?_
    refine hp_get (k := 18) (pc' := 33) (v := (rI p1 66 18)) rfl rfl rfl rfl rfl (by rw [ep2, rI_ne (fun _ => by decide)]) ?_
    refine hp_z (pc' := 34) (e := (-100) - (rI p1 66 18)) (st' := []) rfl rfl rfl ?_
    intro z1 hz1
    have ez1 := i_sub hz1 (show ((-100) : Int32).toInt = (-100) from by decide) (show (rI p1 66 18).toInt = (rI p1 66 18).toInt from rfl)
    refine hp_ri rfl rfl ?_
    rcases h2.2 with ⟨ac, a1, a2, a3⟩ | ⟨r, b, a1, a2, a3⟩
    · exfalso; omega
    · exact k1 r b _ _ (by rw [ep2]; exact (hNt.w (hNt.trans (hNt.refl _ _) (h1.up (by decide))) rfl)) a1 a2 (by rw [ep2, rI_eq wq (by decide)]; decide) ⟨_, a3, hz1⟩
