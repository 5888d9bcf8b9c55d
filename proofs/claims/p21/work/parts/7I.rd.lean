/-! contracts of methods, walked -/
/-- the tape's letters, as the reader sees them -/
def fX (p : xH) (j : Nat) : Int := if (j : Int) < (rI p 25 2).toInt then (rI p 31 j).toInt else -1
abbrev T_rd : List (Nat × Nat) := [(25, 3), (26, 2), (27, 9999), (28, 9999)]
theorem fX_nt {p p2 : xH} (h : hNt T_rd p p2) : fX p2 = fX p := by
  funext j
  unfold fX
  rw [h.int (r := 25) (k := 2) rfl, h.int (r := 31) rfl]
theorem fX_end {p : xH} {j : Nat} (h : (rI p 25 2).toInt ≤ j) : fX p j = -1 := by unfold fX; rw [if_neg (by omega)]
theorem fX_in {p : xH} {j : Nat} (h : fX p j ≠ -1) : (j : Int) < (rI p 25 2).toInt := by
  rcases Int.lt_or_le (j : Int) (rI p 25 2).toInt with z | z
  · exact z
  · exact absurd (fX_end z) h
/-- steps in cells -/
def hCd (p : xH) (r L : Nat) (e : lE) : Prop := ∀ i x, e[i]? = some x → (rI p r (L + i)).toInt = x.1 ∧ rI p (r + 1) (L + i) = x.2
theorem hCd_app {p : xH} {r L : Nat} {a b : lE} (h : hCd p r L a) (g : hCd p r (L + a.length) b) : hCd p r L (a ++ b) := by
  intro i x hx
  rw [List.getElem?_append] at hx
  split at hx
  next hi => exact h i x hx
  next hi =>
    have := g (i - a.length) x hx
    rw [show L + a.length + (i - a.length) = L + i by omega] at this
    exact this
theorem hCd_l {p : xH} {r L : Nat} {a b : lE} (h : hCd p r L (a ++ b)) : hCd p r L a := fun i x hx => h i x (by
  have := (List.getElem?_eq_some_iff.mp hx).1
  rw [List.getElem?_append_left this]; exact hx)
theorem hCd_r {p : xH} {r L : Nat} {a b : lE} (h : hCd p r L (a ++ b)) : hCd p r (L + a.length) b := fun i x hx => by
  have := h (a.length + i) x (by rw [List.getElem?_append_right (by omega), show a.length + i - a.length = i by omega]; exact hx)
  rw [show L + a.length + i = L + (a.length + i) by omega]
  exact this
theorem rI_int {p : xH} {r k : Nat} {x : Int32} (h : rV p r k = .int x) : rI p r k = x := by unfold rI; rw [h]
theorem rI_v {p p2 : xH} {r k : Nat} (h : rV p2 r k = rV p r k) : rI p2 r k = rI p r k := by unfold rI; rw [h]
theorem hCd_same {p p2 : xH} {r L : Nat} {e : lE} (h : hCd p r L e) (g : ∀ j, L ≤ j → j < L + e.length → rV p2 r j = rV p r j ∧ rV p2 (r + 1) j = rV p (r + 1) j) : hCd p2 r L e := fun i x hx => by
  have hi := (List.getElem?_eq_some_iff.mp hx).1
  have := g (L + i) (by omega) (by omega)
  rw [rI_v this.1, rI_v this.2]
  exact h i x hx
/-- the reader may go on here -/
def hTp (p : xH) : Prop := 0 ≤ (rI p 25 3).toInt ∧ (rI p 25 3).toInt ≤ (rI p 25 2).toInt ∧ (rI p 25 2).toInt ≤ 120 ∧ 0 ≤ (rI p 26 2).toInt ∧ (rI p 26 2).toInt ≤ (rI p 25 3).toInt
/-- from a to b the steps e have come; k letters more than steps -/
def XO (k : Int) (p p2 : xH) (a : Nat) (e : lE) (b : Nat) : Prop := hNt T_rd p p2 ∧ (rI p2 25 3).toInt = b ∧ (rI p2 26 2).toInt = (rI p 26 2).toInt + e.length ∧ (e.length : Int) + k + a ≤ b ∧ (b : Int) ≤ (rI p 25 2).toInt ∧ (∀ j : Nat, (j : Int) < (rI p 26 2).toInt → rV p2 27 j = rV p 27 j ∧ rV p2 28 j = rV p 28 j) ∧ hCd p2 27 (rI p 26 2).toInt.toNat e
theorem XO_0 {p : xH} (h : hTp p) {a : Nat} (ha : (rI p 25 3).toInt = a) : XO 0 p p a [] a := by
  obtain ⟨h1, h2, h3, h4, h5⟩ := h
  refine ⟨hNt.refl _ _, ha, ?_, ?_, by omega, fun _ _ => ⟨rfl, rfl⟩, fun i x hx => by cases hx⟩
  · rw [List.length_nil]; omega
  · rw [List.length_nil]; omega
theorem XO_k {k m : Int} {p p2 : xH} {a b : Nat} {e : lE} (h : XO k p p2 a e b) (hm : m ≤ k) : XO m p p2 a e b := ⟨h.1, h.2.1, h.2.2.1, by have := h.2.2.2.1; omega, h.2.2.2.2⟩
theorem XO_tp {k : Int} {p p2 : xH} {a b : Nat} {e : lE} (h : hTp p) (ha : (rI p 25 3).toInt = a) (hk : 0 ≤ k) (g : XO k p p2 a e b) : hTp p2 := by
  obtain ⟨h1, h2, h3, h4, h5⟩ := h
  obtain ⟨g1, g2, g3, g4, g5, -, -⟩ := g
  refine ⟨by omega, ?_, ?_, by omega, by omega⟩
  · rw [g1.int (r := 25) (k := 2) rfl]; omega
  · rw [g1.int (r := 25) (k := 2) rfl]; omega
theorem XO_at {k : Int} {p0 p p2 : xH} {a b : Nat} {e : lE} {z : Int32} (h : XO k p0 p a e b) (hw : hW p) (hz : z.toInt = b + 1) (hb : (b : Int) < (rI p0 25 2).toInt) (e2 : p2 = wV p 25 3 (.int z)) : XO (k + 1) p0 p2 a e (b + 1) := by
  obtain ⟨g1, g2, g3, g4, g5, g6, g7⟩ := h
  refine ⟨by rw [e2]; exact g1.w rfl, by rw [e2, rI_eq hw (by decide), hz]; push_cast; rfl, by rw [e2, rI_o (by decide)]; exact g3, by push_cast; omega, by push_cast; omega, fun j hj => ?_, ?_⟩
  · rw [e2, rV_ne (fun z => absurd z (by decide)), rV_ne (fun z => absurd z (by decide))]; exact g6 j hj
  · refine hCd_same g7 (fun j _ _ => ?_)
    rw [e2, rV_ne (fun z => absurd z (by decide)), rV_ne (fun z => absurd z (by decide))]
    exact ⟨rfl, rfl⟩
theorem XO_tr {k m : Int} {p0 p p2 : xH} {a b c : Nat} {e e2 : lE} (hp : 0 ≤ (rI p0 26 2).toInt) (h : XO k p0 p a e b) (g : XO m p p2 b e2 c) : XO (k + m) p0 p2 a (e ++ e2) c := by
  obtain ⟨h1, h2, h3, h4, h5, h6, h7⟩ := h
  obtain ⟨g1, g2, g3, g4, g5, g6, g7⟩ := g
  rw [h1.int (r := 25) (k := 2) rfl] at g5
  refine ⟨h1.trans g1, g2, by rw [List.length_append, g3, h3]; push_cast; omega, by rw [List.length_append]; push_cast; omega, g5, fun j hj => ?_, ?_⟩
  · have q := g6 j (by omega)
    rw [q.1, q.2]
    exact h6 j hj
  · refine hCd_app (hCd_same h7 (fun j j1 j2 => g6 j (by omega))) ?_
    rw [show (rI p0 26 2).toInt.toNat + e.length = (rI p 26 2).toInt.toNat by omega]
    exact g7
/-- a step is added, its cells told -/
theorem XO_ad {k : Int} {p0 p p2 : xH} {a b : Nat} {e : lE} {x y : Int32} {c : Int} (h0 : hTp p0) (ha : (rI p0 25 3).toInt = a) (hk : -2 ≤ k) (h : XO (k + 1) p0 p a e b) (hw : hW p) (hx : x.toInt = c) (e2 : p2 = wV (wV (wV p 27 (rI p 26 2).toInt.toNat (.int x)) 28 (rI p 26 2).toInt.toNat (.int y)) 26 2 (.int (rI p 26 2 + 1))) : XO k p0 p2 a (e ++ [(c, y)]) b := by
  obtain ⟨t1, t2, t3, t4, t5⟩ := h0
  obtain ⟨h1, h2, h3, h4, h5, h6, h7⟩ := h
  have w1 : hW (wV p 27 (rI p 26 2).toInt.toNat (.int x)) := hW_wV hw rfl
  have w2 : hW (wV (wV p 27 (rI p 26 2).toInt.toNat (.int x)) 28 (rI p 26 2).toInt.toNat (.int y)) := hW_wV w1 rfl
  have hL : (rI p 26 2).toInt.toNat < 128 := by omega
  have q : rI p2 26 2 = rI p 26 2 + 1 := by rw [e2, rI_eq w2 (by decide)]
  have q2 := i_add q rfl (show (1 : Int32).toInt = 1 from by decide)
  have r27 : ∀ j, rV p2 27 j = if j = (rI p 26 2).toInt.toNat then .int x else rV p 27 j := fun j => by
    rw [e2, rV_ne (fun z => absurd z (by decide)), rV_ne (fun z => absurd z (by decide)), rV_w hw hL]
  have r28 : ∀ j, rV p2 28 j = if j = (rI p 26 2).toInt.toNat then .int y else rV p 28 j := fun j => by
    rw [e2, rV_ne (fun z => absurd z (by decide)), rV_w w1 hL, rV_ne (fun z => absurd z (by decide))]
  have hl1 : (e ++ [(c, y)]).length = e.length + 1 := by rw [List.length_append]; rfl
  refine ⟨by rw [e2]; exact ((h1.w rfl).w rfl).w rfl, by rw [e2, rI_o (by decide), rI_o (by decide), rI_o (by decide)]; exact h2, ?_, ?_, h5, fun j hj => ?_, ?_⟩
  · rw [hl1]; push_cast; omega
  · rw [hl1]; push_cast; omega
  · rw [r27, r28, if_neg (by omega), if_neg (by omega)]; exact h6 j hj
  · refine hCd_app (hCd_same h7 (fun j j1 j2 => by rw [r27, r28, if_neg (by omega), if_neg (by omega)]; exact ⟨rfl, rfl⟩)) ?_
    intro i u hu
    have hi := (List.getElem?_eq_some_iff.mp hu).1
    have hi0 : i = 0 := by rw [List.length_singleton] at hi; omega
    subst hi0
    have hu : (c, y) = u := Option.some.inj hu
    subst hu
    have i27 : rI p2 27 ((rI p0 26 2).toInt.toNat + e.length + 0) = x := rI_int (by rw [r27, if_pos (by omega)])
    have i28 : rI p2 28 ((rI p0 26 2).toInt.toNat + e.length + 0) = y := rI_int (by rw [r28, if_pos (by omega)])
    exact ⟨by rw [i27]; exact hx, i28⟩
theorem i_to {a : Nat} {x : Int} (h : x = a) : x.toNat = a := by omega
theorem lvl_b {f : Nat → Int} {a : Nat} : ∀ {k : Nat}, (∀ j, j < k → ldg (f (a + j))) → 0 ≤ lvl f a k ∧ lvl f a k < 10 ^ k
  | 0, _ => ⟨Int.le_refl _, by show (0 : Int) < 10 ^ 0; decide⟩
  | k + 1, h => by
    have h1 := lvl_b (f := f) (a := a) (k := k) (fun j hj => h j (by omega))
    have h2 := h k (by omega)
    have h3 : lvl f a (k + 1) = 10 * lvl f a k + f (a + k) - 48 := rfl
    rw [Int.pow_succ]
    omega
theorem s_next {ro : List (List Int32)} {n d : Nat} {p : xH} {Q : Option Value → xH → Prop}  (pre0 : 0 ≤ (rI p 25 3).toInt) (k0 : ∀ z : Int32, (z.toInt = fX p (rI p 25 3).toInt.toNat) → Q (some (.int z)) p) : hP ro n d (8, 1, 1, 1, k94) 0 (lv_args 0 [.ref 25]) [] p Q := by
  refine hp_id (ls := [(0, .ref 25)]) ?_
  refine hp_s (pc' := 1) (st' := [.ref 25]) rfl rfl rfl ?_
  refine hp_get (k := 3) (pc' := 4) (v := (rI p 25 3)) rfl rfl rfl rfl rfl rfl ?_
  refine hp_s (pc' := 5) (st' := [.ref 25, .int (rI p 25 3)]) rfl rfl rfl ?_
  refine hp_get (k := 2) (pc' := 8) (v := (rI p 25 2)) rfl rfl rfl rfl rfl rfl ?_
  refine hp_ic (pc' := 11) (t := 23) (a := (rI p 25 3).toInt) (b := (rI p 25 2).toInt) rfl rfl rfl rfl rfl (fun (h1 : (rI p 25 2).toInt ≤ (rI p 25 3).toInt) => ?_) (fun (h2 : ¬ ((rI p 25 2).toInt ≤ (rI p 25 3).toInt)) => ?_)
  ·
    refine hp_s (pc' := 24) (st' := [.int (-1)]) rfl rfl rfl ?_
    refine hp_ri rfl rfl ?_
    first | (exact k0 _ (by unfold fX; first | (rw [if_pos (by omega)]) | (rw [if_neg (by omega)]; decide))) | (exfalso; omega)
  ·
    refine hp_s (pc' := 12) (st' := [.ref 25]) rfl rfl rfl ?_
    refine hp_getr (k := 1) (w := .ref 31) (pc' := 15) rfl rfl rfl rfl rfl ?_
    refine hp_s (pc' := 16) (st' := [.ref 25, .ref 31]) rfl rfl rfl ?_
    refine hp_get (k := 3) (pc' := 19) (v := (rI p 25 3)) rfl rfl rfl rfl rfl rfl ?_
    refine hp_ld (t := 100) (v := (rI p 31 (rI p 25 3).toInt.toNat)) rfl (.inl rfl) rfl rfl rfl ?_
    intro (g1a : 0 ≤ (rI p 25 3).toInt) (g1b : (rI p 25 3).toInt < 120)
    refine hp_go (pc' := 24) rfl rfl rfl ?_
    refine hp_ri rfl rfl ?_
    first | (exact k0 _ (by unfold fX; first | (rw [if_pos (by omega)]) | (rw [if_neg (by omega)]; decide))) | (exfalso; omega)
theorem s_passOver {ro : List (List Int32)} {n d : Nat} {p : xH} {Q : Option Value → xH → Prop} {c : Int32} {ci : Int} (hc : c.toInt = ci) (pre0 : 0 ≤ (rI p 25 3).toInt) (k0 : ∀ p2 : xH, p2 = (wV p 25 3 (.int (rI p 25 3 + 1))) → (fX p (rI p 25 3).toInt.toNat = ci) → Q (some (.int (1))) p2) (k1 : (fX p (rI p 25 3).toInt.toNat ≠ ci) → Q (some (.int (0))) p) : hP ro n d (8, 2, 1, 2, k95) 0 (lv_args 0 [.ref 25, .int c]) [] p Q := by
  subst hc
  refine hp_id (ls := [(0, .ref 25), (1, .int c)]) ?_
  refine hp_s (pc' := 1) (st' := [.ref 25]) rfl rfl rfl ?_
  refine hp_cv (r := 25) (o := 8) (kd := 1) (as := []) (rest := []) (pc' := 4) rfl rfl rfl rfl rfl rfl rfl rfl rfl (fun d1 => ?_)
  refine s_next (by first | assumption | omega) ?_
  intro y1 h1
  refine hp_id (st := [.int y1]) ?_
  refine hp_s (pc' := 5) (st' := [.int c, .int y1]) rfl rfl rfl ?_
  refine hp_ic (pc' := 8) (t := 10) (a := y1.toInt) (b := c.toInt) rfl rfl rfl rfl rfl (fun (h2 : y1.toInt = c.toInt) => ?_) (fun (h3 : ¬ (y1.toInt = c.toInt)) => ?_)
  ·
    refine hp_s (pc' := 11) (st' := [.ref 25]) rfl rfl rfl ?_
    refine hp_s (pc' := 12) (st' := [.ref 25, .ref 25]) rfl rfl rfl ?_
    refine hp_get (k := 3) (pc' := 15) (v := (rI p 25 3)) rfl rfl rfl rfl rfl rfl ?_
    refine hp_s (pc' := 16) (st' := [.int 1, .int (rI p 25 3), .ref 25]) rfl rfl rfl ?_
    refine hp_z (pc' := 17) (e := (rI p 25 3) + 1) (st' := [.ref 25]) rfl rfl rfl ?_
    intro z1 hz1
    have ez1 := i_add hz1 (show (rI p 25 3).toInt = (rI p 25 3).toInt from rfl) (show (1 : Int32).toInt = 1 from by decide)
    refine hp_put (k := 3) (pc' := 20) rfl rfl rfl rfl rfl ?_
    intro p1 wp1 ep1
    refine hp_s (pc' := 21) (st' := [.int 1]) rfl rfl rfl ?_
    refine hp_rb rfl rfl (fun _ => ?_)
    first | (exact k0 _ (by subst_vars; rfl) (by first | assumption | omega)) | (exfalso; omega)
  ·
    refine hp_s (pc' := 9) (st' := [.int 0]) rfl rfl rfl ?_
    refine hp_rb rfl rfl (fun _ => ?_)
    first | (exact k1 (by first | assumption | omega)) | (exfalso; omega)
theorem s_addD {ro : List (List Int32)} {n d : Nat} {p : xH} {Q : Option Value → xH → Prop} {x : Int32} {xi : Int} {y : Int32} {yi : Int} (hx : x.toInt = xi) (hy : y.toInt = yi) (pre0 : (rI p 26 2).toInt < 128) (k0 : ∀ p2 : xH, p2 = (wV (wV (wV p 27 ((rI p 26 2).toInt.toNat) (.int x)) 28 ((rI p 26 2).toInt.toNat) (.int y)) 26 2 (.int (rI p 26 2 + 1))) → Q none p2) : hP ro n d (3, 3, 1, 0, k41) 0 (lv_args 0 [.ref 26, .int x, .int y]) [] p Q := by
  subst hx
  subst hy
  refine hp_id (ls := [(0, .ref 26), (1, .int x), (2, .int y)]) ?_
  refine hp_s (pc' := 1) (st' := [.ref 26]) rfl rfl rfl ?_
  refine hp_get (k := 2) (pc' := 4) (v := (rI p 26 2)) rfl rfl rfl rfl rfl rfl ?_
  refine hp_s (pc' := 7) (st' := [.int 128, .int (rI p 26 2)]) rfl rfl rfl ?_
  refine hp_ic (pc' := 10) (t := 11) (a := (rI p 26 2).toInt) (b := 128) rfl rfl rfl rfl (by decide) (fun (h1 : (rI p 26 2).toInt < 128) => ?_) (fun (h2 : ¬ ((rI p 26 2).toInt < 128)) => ?_)
  ·
    refine hp_s (pc' := 12) (st' := [.ref 26]) rfl rfl rfl ?_
    refine hp_getr (k := 0) (w := .ref 27) (pc' := 15) rfl rfl rfl rfl rfl ?_
    refine hp_s (pc' := 16) (st' := [.ref 26, .ref 27]) rfl rfl rfl ?_
    refine hp_get (k := 2) (pc' := 19) (v := (rI p 26 2)) rfl rfl rfl rfl rfl rfl ?_
    refine hp_s (pc' := 20) (st' := [.int x, .int (rI p 26 2), .ref 27]) rfl rfl rfl ?_
    refine hp_st (t := 100) rfl (.inl rfl) rfl rfl ?_
    intro p1 wp1 (p1a : 0 ≤ (rI p 26 2).toInt) (p1b : (rI p 26 2).toInt < 128) ep1
    refine hp_s (pc' := 22) (st' := [.ref 26]) rfl rfl rfl ?_
    refine hp_getr (k := 1) (w := .ref 28) (pc' := 25) rfl rfl rfl rfl rfl ?_
    refine hp_s (pc' := 26) (st' := [.ref 26, .ref 28]) rfl rfl rfl ?_
    refine hp_get (k := 2) (pc' := 29) (v := (rI p 26 2)) rfl rfl rfl rfl rfl (by rw [ep1, rI_o (by decide)]) ?_
    refine hp_s (pc' := 30) (st' := [.int y, .int (rI p 26 2), .ref 28]) rfl rfl rfl ?_
    refine hp_st (t := 100) rfl (.inl rfl) rfl rfl ?_
    intro p2 wp2 (p2a : 0 ≤ (rI p 26 2).toInt) (p2b : (rI p 26 2).toInt < 128) ep2
    refine hp_s (pc' := 32) (st' := [.ref 26]) rfl rfl rfl ?_
    refine hp_s (pc' := 33) (st' := [.ref 26, .ref 26]) rfl rfl rfl ?_
    refine hp_get (k := 2) (pc' := 36) (v := (rI p 26 2)) rfl rfl rfl rfl rfl (by rw [ep2, rI_o (by decide), ep1, rI_o (by decide)]) ?_
    refine hp_s (pc' := 37) (st' := [.int 1, .int (rI p 26 2), .ref 26]) rfl rfl rfl ?_
    refine hp_z (pc' := 38) (e := (rI p 26 2) + 1) (st' := [.ref 26]) rfl rfl rfl ?_
    intro z1 hz1
    have ez1 := i_add hz1 (show (rI p 26 2).toInt = (rI p 26 2).toInt from rfl) (show (1 : Int32).toInt = 1 from by decide)
    refine hp_put (k := 2) (pc' := 41) rfl rfl rfl rfl rfl ?_
    intro p3 wp3 ep3
    refine hp_rv rfl rfl ?_
    first | (exact k0 _ (by subst_vars; repeat' (first | with_reducible rfl | omega | rfl | congr 1))) | (exfalso; omega)
  ·
    refine hp_rv rfl rfl ?_
    first | (exact k0 _ (by subst_vars; repeat' (first | with_reducible rfl | omega | rfl | congr 1))) | (exfalso; omega)
theorem s_endSkip {ro : List (List Int32)} {n d : Nat} {p : xH} {Q : Option Value → xH → Prop} {x : Int32} {xi : Int} (hx : x.toInt = xi) (pre0 : 0 ≤ xi) (pre1 : xi < (rI p 26 2).toInt) (k0 : ∀ p2 : xH, p2 = (wV p 28 xi.toNat (.int (rI p 26 2))) → Q none p2) : hP ro n d (3, 2, 1, 0, k42) 0 (lv_args 0 [.ref 26, .int x]) [] p Q := by
  subst hx
  refine hp_id (ls := [(0, .ref 26), (1, .int x)]) ?_
  refine hp_s (pc' := 1) (st' := [.int x]) rfl rfl rfl ?_
  refine hp_if (pc' := 4) (t := 22) (a := x.toInt) rfl rfl rfl rfl (fun (h1 : x.toInt < 0) => ?_) (fun (h2 : ¬ (x.toInt < 0)) => ?_)
  ·
    refine hp_rv rfl rfl ?_
    first | (exact k0 _ (by subst_vars; rfl)) | (exfalso; omega)
  ·
    refine hp_s (pc' := 5) (st' := [.int x]) rfl rfl rfl ?_
    refine hp_s (pc' := 6) (st' := [.ref 26, .int x]) rfl rfl rfl ?_
    refine hp_get (k := 2) (pc' := 9) (v := (rI p 26 2)) rfl rfl rfl rfl rfl rfl ?_
    refine hp_ic (pc' := 12) (t := 22) (a := x.toInt) (b := (rI p 26 2).toInt) rfl rfl rfl rfl rfl (fun (h3 : (rI p 26 2).toInt ≤ x.toInt) => ?_) (fun (h4 : ¬ ((rI p 26 2).toInt ≤ x.toInt)) => ?_)
    ·
      refine hp_rv rfl rfl ?_
      first | (exact k0 _ (by subst_vars; rfl)) | (exfalso; omega)
    ·
      refine hp_s (pc' := 13) (st' := [.ref 26]) rfl rfl rfl ?_
      refine hp_getr (k := 1) (w := .ref 28) (pc' := 16) rfl rfl rfl rfl rfl ?_
      refine hp_s (pc' := 17) (st' := [.int x, .ref 28]) rfl rfl rfl ?_
      refine hp_s (pc' := 18) (st' := [.ref 26, .int x, .ref 28]) rfl rfl rfl ?_
      refine hp_get (k := 2) (pc' := 21) (v := (rI p 26 2)) rfl rfl rfl rfl rfl rfl ?_
      refine hp_st (t := 100) rfl (.inl rfl) rfl rfl ?_
      intro p1 wp1 (p1a : 0 ≤ x.toInt) (p1b : x.toInt < 128) ep1
      refine hp_rv rfl rfl ?_
      first | (exact k0 _ (by subst_vars; rfl)) | (exfalso; omega)
theorem s_isDigit {ro : List (List Int32)} {n d : Nat} {p : xH} {Q : Option Value → xH → Prop} {c : Int32} {ci : Int} (hc : c.toInt = ci)  (k0 : (ldg ci) → Q (some (.int (1))) p) (k1 : (¬ ldg ci) → Q (some (.int (0))) p) : hP ro n d (8, 1, 0, 2, k105) 0 (lv_args 0 [.int c]) [] p Q := by
  subst hc
  refine hp_id (ls := [(0, .int c)]) ?_
  refine hp_s (pc' := 1) (st' := [.int c]) rfl rfl rfl ?_
  refine hp_s (pc' := 3) (st' := [.int 48, .int c]) rfl rfl rfl ?_
  refine hp_ic (pc' := 6) (t := 16) (a := c.toInt) (b := 48) rfl rfl rfl rfl (by decide) (fun (h1 : c.toInt < 48) => ?_) (fun (h2 : ¬ (c.toInt < 48)) => ?_)
  ·
    refine hp_s (pc' := 17) (st' := [.int 0]) rfl rfl rfl ?_
    refine hp_rb rfl rfl (fun _ => ?_)
    first | (exact k1 (by first | assumption | omega)) | (exfalso; omega)
  ·
    refine hp_s (pc' := 7) (st' := [.int c]) rfl rfl rfl ?_
    refine hp_s (pc' := 9) (st' := [.int 57, .int c]) rfl rfl rfl ?_
    refine hp_ic (pc' := 12) (t := 16) (a := c.toInt) (b := 57) rfl rfl rfl rfl (by decide) (fun (h3 : 57 < c.toInt) => ?_) (fun (h4 : ¬ (57 < c.toInt)) => ?_)
    ·
      refine hp_s (pc' := 17) (st' := [.int 0]) rfl rfl rfl ?_
      refine hp_rb rfl rfl (fun _ => ?_)
      first | (exact k1 (by first | assumption | omega)) | (exfalso; omega)
    ·
      refine hp_s (pc' := 13) (st' := [.int 1]) rfl rfl rfl ?_
      refine hp_go (pc' := 17) rfl rfl rfl ?_
      refine hp_rb rfl rfl (fun _ => ?_)
      first | (exact k0 (by first | assumption | omega)) | (exfalso; omega)
theorem s_nameOf {ro : List (List Int32)} {n d : Nat} {p : xH} {Q : Option Value → xH → Prop} {c : Int32} {ci : Int} (hc : c.toInt = ci)  (k0 : ∀ z : Int32, (z.toInt = lnm ci) → Q (some (.int z)) p) : hP ro n d (8, 1, 0, 1, k106) 0 (lv_args 0 [.int c]) [] p Q := by
  subst hc
  refine hp_id (ls := [(0, .int c)]) ?_
  refine hp_s (pc' := 1) (st' := [.int c]) rfl rfl rfl ?_
  by_cases h1 : c.toInt = 97
  ·
    refine hp_sw (v := 97) (t := 70) rfl rfl (h1) rfl ?_
    refine hp_s (pc' := 71) (st' := [.int 1]) rfl rfl rfl ?_
    refine hp_ri rfl rfl ?_
    first | (exact k0 _ (by unfold lnm; repeat (first | decide | omega | rw [if_pos (by omega)] | rw [if_neg (by omega)]))) | (exfalso; omega)
  by_cases h2 : c.toInt = 98
  ·
    refine hp_sw (v := 98) (t := 72) rfl rfl (h2) rfl ?_
    refine hp_s (pc' := 73) (st' := [.int 2]) rfl rfl rfl ?_
    refine hp_ri rfl rfl ?_
    first | (exact k0 _ (by unfold lnm; repeat (first | decide | omega | rw [if_pos (by omega)] | rw [if_neg (by omega)]))) | (exfalso; omega)
  by_cases h3 : c.toInt = 99
  ·
    refine hp_sw (v := 99) (t := 80) rfl rfl (h3) rfl ?_
    refine hp_s (pc' := 81) (st' := [.int (-1)]) rfl rfl rfl ?_
    refine hp_ri rfl rfl ?_
    first | (exact k0 _ (by unfold lnm; repeat (first | decide | omega | rw [if_pos (by omega)] | rw [if_neg (by omega)]))) | (exfalso; omega)
  by_cases h4 : c.toInt = 100
  ·
    refine hp_sw (v := 100) (t := 68) rfl rfl (h4) rfl ?_
    refine hp_s (pc' := 69) (st' := [.int 0]) rfl rfl rfl ?_
    refine hp_ri rfl rfl ?_
    first | (exact k0 _ (by unfold lnm; repeat (first | decide | omega | rw [if_pos (by omega)] | rw [if_neg (by omega)]))) | (exfalso; omega)
  by_cases h5 : c.toInt = 101
  ·
    refine hp_sw (v := 101) (t := 78) rfl rfl (h5) rfl ?_
    refine hp_s (pc' := 79) (st' := [.int 5]) rfl rfl rfl ?_
    refine hp_ri rfl rfl ?_
    first | (exact k0 _ (by unfold lnm; repeat (first | decide | omega | rw [if_pos (by omega)] | rw [if_neg (by omega)]))) | (exfalso; omega)
  by_cases h6 : c.toInt = 102
  ·
    refine hp_sw (v := 102) (t := 80) rfl rfl (h6) rfl ?_
    refine hp_s (pc' := 81) (st' := [.int (-1)]) rfl rfl rfl ?_
    refine hp_ri rfl rfl ?_
    first | (exact k0 _ (by unfold lnm; repeat (first | decide | omega | rw [if_pos (by omega)] | rw [if_neg (by omega)]))) | (exfalso; omega)
  by_cases h7 : c.toInt = 103
  ·
    refine hp_sw (v := 103) (t := 80) rfl rfl (h7) rfl ?_
    refine hp_s (pc' := 81) (st' := [.int (-1)]) rfl rfl rfl ?_
    refine hp_ri rfl rfl ?_
    first | (exact k0 _ (by unfold lnm; repeat (first | decide | omega | rw [if_pos (by omega)] | rw [if_neg (by omega)]))) | (exfalso; omega)
  by_cases h8 : c.toInt = 104
  ·
    refine hp_sw (v := 104) (t := 74) rfl rfl (h8) rfl ?_
    refine hp_s (pc' := 75) (st' := [.int 3]) rfl rfl rfl ?_
    refine hp_ri rfl rfl ?_
    first | (exact k0 _ (by unfold lnm; repeat (first | decide | omega | rw [if_pos (by omega)] | rw [if_neg (by omega)]))) | (exfalso; omega)
  by_cases h9 : c.toInt = 105
  ·
    refine hp_sw (v := 105) (t := 80) rfl rfl (h9) rfl ?_
    refine hp_s (pc' := 81) (st' := [.int (-1)]) rfl rfl rfl ?_
    refine hp_ri rfl rfl ?_
    first | (exact k0 _ (by unfold lnm; repeat (first | decide | omega | rw [if_pos (by omega)] | rw [if_neg (by omega)]))) | (exfalso; omega)
  by_cases h10 : c.toInt = 106
  ·
    refine hp_sw (v := 106) (t := 80) rfl rfl (h10) rfl ?_
    refine hp_s (pc' := 81) (st' := [.int (-1)]) rfl rfl rfl ?_
    refine hp_ri rfl rfl ?_
    first | (exact k0 _ (by unfold lnm; repeat (first | decide | omega | rw [if_pos (by omega)] | rw [if_neg (by omega)]))) | (exfalso; omega)
  by_cases h11 : c.toInt = 107
  ·
    refine hp_sw (v := 107) (t := 80) rfl rfl (h11) rfl ?_
    refine hp_s (pc' := 81) (st' := [.int (-1)]) rfl rfl rfl ?_
    refine hp_ri rfl rfl ?_
    first | (exact k0 _ (by unfold lnm; repeat (first | decide | omega | rw [if_pos (by omega)] | rw [if_neg (by omega)]))) | (exfalso; omega)
  by_cases h12 : c.toInt = 108
  ·
    refine hp_sw (v := 108) (t := 80) rfl rfl (h12) rfl ?_
    refine hp_s (pc' := 81) (st' := [.int (-1)]) rfl rfl rfl ?_
    refine hp_ri rfl rfl ?_
    first | (exact k0 _ (by unfold lnm; repeat (first | decide | omega | rw [if_pos (by omega)] | rw [if_neg (by omega)]))) | (exfalso; omega)
  by_cases h13 : c.toInt = 109
  ·
    refine hp_sw (v := 109) (t := 76) rfl rfl (h13) rfl ?_
    refine hp_s (pc' := 77) (st' := [.int 4]) rfl rfl rfl ?_
    refine hp_ri rfl rfl ?_
    first | (exact k0 _ (by unfold lnm; repeat (first | decide | omega | rw [if_pos (by omega)] | rw [if_neg (by omega)]))) | (exfalso; omega)
  refine hp_td (t := 80) rfl rfl (by omega) ?_
  refine hp_s (pc' := 81) (st' := [.int (-1)]) rfl rfl rfl ?_
  refine hp_ri rfl rfl ?_
  first | (exact k0 _ (by unfold lnm; repeat (first | decide | omega | rw [if_pos (by omega)] | rw [if_neg (by omega)]))) | (exfalso; omega)
theorem hpw (k : Nat) (h : k ≤ 3) : (10 : Int) ^ k ≤ 1000 := by
  rcases (show k = 0 ∨ k = 1 ∨ k = 2 ∨ k = 3 from by omega) with rfl | rfl | rfl | rfl <;> decide
/-- so far only the place has changed -/
def XA (p0 p : xH) (a k : Nat) : Prop := (rI p 26 2).toInt = (rI p0 26 2).toInt ∧ (rI p 25 3).toInt = ((a + k : Nat) : Int) ∧ hNt [(25, 3)] p0 p
theorem XA_s {p0 p p2 : xH} {a k : Nat} {z : Int32} (h : XA p0 p a k) (hw : hW p) (hz : z.toInt = ((a + k : Nat) : Int) + 1) (e2 : p2 = wV p 25 3 (.int z)) : XA p0 p2 a (k + 1) := by
  obtain ⟨h1, h2, h3⟩ := h
  exact ⟨by rw [e2, rI_o (by decide)]; exact h1, by rw [e2, rI_eq hw (by decide), hz]; push_cast; omega, by rw [e2]; exact h3.w rfl⟩
theorem XA_O {p0 p : xH} {a k : Nat} (h : XA p0 p a k) (hb : ((a + k : Nat) : Int) ≤ (rI p0 25 2).toInt) : XO k p0 p a [] (a + k) := by
  obtain ⟨h1, h2, h3⟩ := h
  refine ⟨h3.up (by decide), h2, by rw [h1, List.length_nil]; omega, by rw [List.length_nil]; push_cast; omega, hb, fun j _ => ⟨h3 _ _ rfl, h3 _ _ rfl⟩, fun i x hx => by cases hx⟩
theorem lp_104 {ro : List (List Int32)} {d : Nat} {Q : Option Value → xH → Prop} {p0 : xH} {a : Nat} (g0 : hTp p0) (ga : (rI p0 25 3).toInt = a) (gd : ldg (fX p0 a)) (K : ∀ (k : Nat) (x : Int32) (p2 : xH), hNt T_rd p0 p2 → 1 ≤ k → k ≤ 4 → (∀ j, j < k → ldg (fX p0 (a + j))) → (k = 4 ∨ ¬ ldg (fX p0 (a + k))) → x.toInt = lvl (fX p0) a k → XO 0 p0 p2 a [(48, x)] (a + k) → Q (some (.int 1)) p2) : ∀ (n : Nat) (k : Int32) (v : Int32) (p : xH) (kk : Nat), (k.toInt = kk) → (kk ≤ 4) → (∀ j, j < kk → ldg (fX p0 (a + j))) → (v.toInt = lvl (fX p0) a kk) → (XA p0 p a kk) → hP ro n d (8, 3, 1, 2, k104) 4 [(2, .int k), (1, .int v), (0, .ref 25)] [] p Q := by
  intro n
  induction n with
  | zero => intros; exact hp_0
  | succ n ih =>
    intro k v p kk hkk h4 hd hv hX
    refine hp_hw (fun wp => ?_)
    have x1 := hX.1
    have x2 := hX.2.1
    have hf : fX p = fX p0 := fX_nt (hX.2.2.up (by decide))
    have hb := lvl_b hd
    obtain ⟨t1, t2, t3, t4, t5⟩ := g0
    have g0 : hTp p0 := ⟨t1, t2, t3, t4, t5⟩
    refine hp_s1 (pc' := 5) (st' := [.int k]) rfl rfl rfl ?_
    refine hp_s (pc' := 6) (st' := [.int 4, .int k]) rfl rfl rfl ?_
    refine hp_ic (pc' := 9) (t := 48) (a := k.toInt) (b := 4) rfl rfl rfl rfl (by decide) (fun (h1 : 4 ≤ k.toInt) => ?_) (fun (h2 : ¬ (4 ≤ k.toInt)) => ?_)
    ·
      have hk1 : 1 ≤ kk := by
        rcases Nat.eq_zero_or_pos kk with z | z
        · exfalso; subst z; first | (have hkk0 : k.toInt = 0 := hkk; omega) | exact hnd gd
        · exact z
      have hin : ((a + kk : Nat) : Int) ≤ (rI p0 25 2).toInt := by have q := fX_in (p := p0) (j := a + (kk - 1)) (by have := (hd (kk - 1) (by omega)).1; omega); omega
      have hXO : XO 1 p0 p a [] (a + kk) := XO_k (XA_O hX hin) (by omega)
      refine hp_s (pc' := 49) (st' := [.ref 25]) rfl rfl rfl ?_
      refine hp_getr (k := 0) (w := .ref 26) (pc' := 52) rfl rfl rfl rfl rfl ?_
      refine hp_s (pc' := 54) (st' := [.int 48, .ref 26]) rfl rfl rfl ?_
      refine hp_s (pc' := 55) (st' := [.int v, .int 48, .ref 26]) rfl rfl rfl ?_
      refine hp_cv (r := 26) (o := 3) (kd := 1) (as := [.int 48, .int v]) (rest := []) (pc' := 58) rfl rfl rfl rfl rfl rfl rfl rfl rfl (fun d1 => ?_)
      refine s_addD (xi := 48) (by decide) (yi := v.toInt) rfl (by first | assumption | omega) ?_
      intro p1 ep1
      refine hp_id (st := []) ?_
      refine hp_s (pc' := 59) (st' := [.int 1]) rfl rfl rfl ?_
      refine hp_rb rfl rfl (fun _ => ?_)
      have hF := XO_ad (k := 0) (c := 48) g0 ga (by decide) (XO_k hXO (by decide)) wp (by decide) ep1
      exact K kk v _ hF.1 hk1 h4 hd (by first | exact Or.inl (by omega) | exact Or.inr hnd) hv hF
    ·
      refine hp_s (pc' := 10) (st' := [.ref 25]) rfl rfl rfl ?_
      refine hp_cv (r := 25) (o := 8) (kd := 1) (as := []) (rest := []) (pc' := 13) rfl rfl rfl rfl rfl rfl rfl rfl rfl (fun d2 => ?_)
      refine s_next (by first | assumption | omega) ?_
      intro y1 h3
      have hz1 : y1.toInt = fX p0 (a + kk) := by rw [h3, hf, i_to x2]
      refine hp_id (st := [.int y1]) ?_
      refine hp_cs (kd := 0) (as := [.int y1]) (rest := []) (pc' := 16) rfl rfl rfl rfl rfl rfl rfl (fun d3 => ?_)
      refine s_isDigit (ci := y1.toInt) rfl ?_ ?_
      ·
        intro h4
        have hdg : ldg (fX p0 (a + kk)) := by rw [← hz1]; exact h4
        have hin := fX_in (p := p0) (j := a + kk) (by have := hdg.1; omega)
        refine hp_id (st := [.int 1]) ?_
        refine hp_go (pc' := 19) rfl rfl rfl ?_
        refine hp_s (pc' := 20) (st' := [.int v]) rfl rfl rfl ?_
        refine hp_s (pc' := 22) (st' := [.int 10, .int v]) rfl rfl rfl ?_
        refine hp_z (pc' := 23) (e := v * 10) (st' := []) rfl rfl rfl ?_
        intro z1 hz1
        have ez1 := i_mul hz1 (show v.toInt = v.toInt from rfl) (show (10 : Int32).toInt = 10 from by decide)
        refine hp_s (pc' := 24) (st' := [.ref 25, .int z1]) rfl rfl rfl ?_
        refine hp_cv (r := 25) (o := 8) (kd := 1) (as := []) (rest := [.int z1]) (pc' := 27) rfl rfl rfl rfl rfl rfl rfl rfl rfl (fun d4 => ?_)
        refine s_next (by first | assumption | omega) ?_
        intro y2 h5
        have hz2 : y2.toInt = fX p0 (a + kk) := by rw [h5, hf, i_to x2]
        refine hp_id (st := [.int y2, .int z1]) ?_
        refine hp_z (pc' := 28) (e := z1 + y2) (st' := []) rfl rfl rfl ?_
        intro z2 hz2
        have ez2 := i_add hz2 (show z1.toInt = z1.toInt from rfl) (show y2.toInt = y2.toInt from rfl)
        refine hp_s (pc' := 30) (st' := [.int 48, .int z2]) rfl rfl rfl ?_
        refine hp_z (pc' := 31) (e := z2 - 48) (st' := []) rfl rfl rfl ?_
        intro z3 hz3
        have ez3 := i_sub hz3 (show z2.toInt = z2.toInt from rfl) (show (48 : Int32).toInt = 48 from by decide)
        refine hp_s (pc' := 32) (ls' := [(1, .int z3), (2, .int k), (0, .ref 25)]) (st' := []) rfl rfl rfl ?_
        refine hp_s (pc' := 33) (st' := [.ref 25]) rfl rfl rfl ?_
        refine hp_s (pc' := 34) (st' := [.ref 25, .ref 25]) rfl rfl rfl ?_
        refine hp_get (k := 3) (pc' := 37) (v := (rI p 25 3)) rfl rfl rfl rfl rfl rfl ?_
        refine hp_s (pc' := 38) (st' := [.int 1, .int (rI p 25 3), .ref 25]) rfl rfl rfl ?_
        refine hp_z (pc' := 39) (e := (rI p 25 3) + 1) (st' := [.ref 25]) rfl rfl rfl ?_
        intro z4 hz4
        have ez4 := i_add hz4 (show (rI p 25 3).toInt = (rI p 25 3).toInt from rfl) (show (1 : Int32).toInt = 1 from by decide)
        refine hp_put (k := 3) (pc' := 42) rfl rfl rfl rfl rfl ?_
        intro p2 wp2 ep2
        refine hp_inc (L := fun z => [(2, .int z), (1, .int z3), (0, .ref 25)]) (pc' := 45) rfl rfl rfl (fun _ => rfl) rfl ?_
        intro z5 hz5
        have ez5 := i_add hz5 (show k.toInt = k.toInt from rfl) (show (Int32.ofInt 1).toInt = 1 from by decide)
        refine hp_go (pc' := 4) rfl rfl rfl ?_
        have hX2 := XA_s (z := z4) hX wp (by omega) ep2
        refine ih z5 z3 _ (kk + 1) (by push_cast; omega) (by omega) (fun j hj => ?_) ?_ hX2
        · by_cases g : j < kk
          · exact hd j g
          · rw [show j = kk by omega]; exact hdg
        · show z3.toInt = 10 * lvl (fX p0) a kk + fX p0 (a + kk) - 48
          have hp4 := hpw kk (by omega)
          have hb3 : lvl (fX p0) a kk < 1000 := Int.lt_of_lt_of_le hb.2 hp4
          have hb0 := hb.1
          have hg1 := hdg.1; have hg2 := hdg.2
          clear hb hp4
          omega
      ·
        intro h6
        have hnd : ¬ ldg (fX p0 (a + kk)) := by rw [← hz1]; exact h6
        refine hp_id (st := [.int 0]) ?_
        refine hp_go (pc' := 48) rfl rfl rfl ?_
        have hk1 : 1 ≤ kk := by
          rcases Nat.eq_zero_or_pos kk with z | z
          · exfalso; subst z; first | (have hkk0 : k.toInt = 0 := hkk; omega) | exact hnd gd
          · exact z
        have hin : ((a + kk : Nat) : Int) ≤ (rI p0 25 2).toInt := by have q := fX_in (p := p0) (j := a + (kk - 1)) (by have := (hd (kk - 1) (by omega)).1; omega); omega
        have hXO : XO 1 p0 p a [] (a + kk) := XO_k (XA_O hX hin) (by omega)
        refine hp_s (pc' := 49) (st' := [.ref 25]) rfl rfl rfl ?_
        refine hp_getr (k := 0) (w := .ref 26) (pc' := 52) rfl rfl rfl rfl rfl ?_
        refine hp_s (pc' := 54) (st' := [.int 48, .ref 26]) rfl rfl rfl ?_
        refine hp_s (pc' := 55) (st' := [.int v, .int 48, .ref 26]) rfl rfl rfl ?_
        refine hp_cv (r := 26) (o := 3) (kd := 1) (as := [.int 48, .int v]) (rest := []) (pc' := 58) rfl rfl rfl rfl rfl rfl rfl rfl rfl (fun d5 => ?_)
        refine s_addD (xi := 48) (by decide) (yi := v.toInt) rfl (by first | assumption | omega) ?_
        intro p3 ep3
        refine hp_id (st := []) ?_
        refine hp_s (pc' := 59) (st' := [.int 1]) rfl rfl rfl ?_
        refine hp_rb rfl rfl (fun _ => ?_)
        have hF := XO_ad (k := 0) (c := 48) g0 ga (by decide) (XO_k hXO (by decide)) wp (by decide) ep3
        exact K kk v _ hF.1 hk1 h4 hd (by first | exact Or.inl (by omega) | exact Or.inr hnd) hv hF
theorem s_readNumber {ro : List (List Int32)} {n d : Nat} {p : xH} {Q : Option Value → xH → Prop}  (pre0 : hTp p) (pre1 : ldg (fX p (rI p 25 3).toInt.toNat)) (k0 : ∀ k : Nat, ∀ x : Int32, ∀ p2 : xH, (hNt T_rd p p2) → (1 ≤ k) → (k ≤ 4) → (∀ j, j < k → ldg (fX p ((rI p 25 3).toInt.toNat + j))) → (k = 4 ∨ ¬ ldg (fX p ((rI p 25 3).toInt.toNat + k))) → (x.toInt = lvl (fX p) (rI p 25 3).toInt.toNat k) → (XO 0 p p2 (rI p 25 3).toInt.toNat [(48, x)] ((rI p 25 3).toInt.toNat + k)) → Q (some (.int (1))) p2) : hP ro n d (8, 3, 1, 2, k104) 0 (lv_args 0 [.ref 25]) [] p Q := by
  refine hp_id (ls := [(0, .ref 25)]) ?_
  refine hp_s (pc' := 1) (st' := [.int 0]) rfl rfl rfl ?_
  refine hp_s (pc' := 2) (ls' := [(1, .int 0), (0, .ref 25)]) (st' := []) rfl rfl rfl ?_
  refine hp_s (pc' := 3) (st' := [.int 0]) rfl rfl rfl ?_
  refine hp_s (pc' := 4) (ls' := [(2, .int 0), (1, .int 0), (0, .ref 25)]) (st' := []) rfl rfl rfl ?_
  exact lp_104 (p0 := p) (a := (rI p 25 3).toInt.toNat) pre0 (by have := pre0.1; omega) pre1 (fun k x p2 e0 e1 e2 e3 e4 e5 e6 => k0 k x p2 e0 e1 e2 e3 e4 e5 e6) n 0 0 p 0 rfl (by decide) (fun j hj => absurd hj (by omega)) (by show (0 : Int32).toInt = 0; decide) ⟨rfl, by have := pre0.1; omega, hNt.refl _ _⟩
theorem lnm_no {c : Int} (h : c = -1) : lnm c < 0 := by subst h; decide
def hX_rd0 (ro : List (List Int32)) (n : Nat) : Prop := ∀ {d : Nat} {p : xH} {Q : Option Value → xH → Prop} {o : Int32} {oi : Int} (ho : o.toInt = oi) (pre0 : hTp p) (pre1 : 0 ≤ oi) (k0 : ∀ e : lE, ∀ b : Nat, ∀ p2 : xH, (hNt T_rd p p2) → (yP (fX p) 0 none oi.toNat (rI p 25 3).toInt.toNat (some e, b)) → (XO 0 p p2 (rI p 25 3).toInt.toNat e b) → (lK e) → Q (some (.int (1))) p2) (k1 : ∀ b : Nat, ∀ p2 : xH, (hNt T_rd p p2) → (yP (fX p) 0 none oi.toNat (rI p 25 3).toInt.toNat (none, b)) → ((rI p2 25 3).toInt = b) → Q (some (.int (0))) p2), hP ro n d (8, 3, 1, 2, k97) 0 (lv_args 0 [.ref 25, .int o]) [] p Q
def hX_rd1 (ro : List (List Int32)) (n : Nat) : Prop := ∀ {d : Nat} {p : xH} {Q : Option Value → xH → Prop} {o : Int32} {oi : Int} (ho : o.toInt = oi) (pre0 : hTp p) (pre1 : 0 ≤ oi) (k0 : ∀ e : lE, ∀ b : Nat, ∀ p2 : xH, (hNt T_rd p p2) → (yP (fX p) 1 none oi.toNat (rI p 25 3).toInt.toNat (some e, b)) → (XO 0 p p2 (rI p 25 3).toInt.toNat e b) → (lK e) → Q (some (.int (1))) p2) (k1 : ∀ b : Nat, ∀ p2 : xH, (hNt T_rd p p2) → (yP (fX p) 1 none oi.toNat (rI p 25 3).toInt.toNat (none, b)) → ((rI p2 25 3).toInt = b) → Q (some (.int (0))) p2), hP ro n d (8, 3, 1, 2, k98) 0 (lv_args 0 [.ref 25, .int o]) [] p Q
def hX_rd2 (ro : List (List Int32)) (n : Nat) : Prop := ∀ {d : Nat} {p : xH} {Q : Option Value → xH → Prop} {o : Int32} {oi : Int} (ho : o.toInt = oi) (pre0 : hTp p) (pre1 : 0 ≤ oi) (k0 : ∀ e : lE, ∀ b : Nat, ∀ p2 : xH, (hNt T_rd p p2) → (yP (fX p) 2 none oi.toNat (rI p 25 3).toInt.toNat (some e, b)) → (XO 0 p p2 (rI p 25 3).toInt.toNat e b) → (lK e) → Q (some (.int (1))) p2) (k1 : ∀ b : Nat, ∀ p2 : xH, (hNt T_rd p p2) → (yP (fX p) 2 none oi.toNat (rI p 25 3).toInt.toNat (none, b)) → ((rI p2 25 3).toInt = b) → Q (some (.int (0))) p2), hP ro n d (8, 3, 1, 2, k99) 0 (lv_args 0 [.ref 25, .int o]) [] p Q
def hX_rd3 (ro : List (List Int32)) (n : Nat) : Prop := ∀ {d : Nat} {p : xH} {Q : Option Value → xH → Prop} {o : Int32} {oi : Int} (ho : o.toInt = oi) (pre0 : hTp p) (pre1 : 0 ≤ oi) (k0 : ∀ e : lE, ∀ b : Nat, ∀ p2 : xH, (hNt T_rd p p2) → (yP (fX p) 3 none oi.toNat (rI p 25 3).toInt.toNat (some e, b)) → (XO 0 p p2 (rI p 25 3).toInt.toNat e b) → (lK e) → Q (some (.int (1))) p2) (k1 : ∀ b : Nat, ∀ p2 : xH, (hNt T_rd p p2) → (yP (fX p) 3 none oi.toNat (rI p 25 3).toInt.toNat (none, b)) → ((rI p2 25 3).toInt = b) → Q (some (.int (0))) p2), hP ro n d (8, 4, 1, 2, k100) 0 (lv_args 0 [.ref 25, .int o]) [] p Q
def hX_rd4 (ro : List (List Int32)) (n : Nat) : Prop := ∀ {d : Nat} {p : xH} {Q : Option Value → xH → Prop} {o : Int32} {oi : Int} (ho : o.toInt = oi) (pre0 : hTp p) (pre1 : 0 ≤ oi) (k0 : ∀ e : lE, ∀ b : Nat, ∀ p2 : xH, (hNt T_rd p p2) → (yP (fX p) 4 none oi.toNat (rI p 25 3).toInt.toNat (some e, b)) → (XO 0 p p2 (rI p 25 3).toInt.toNat e b) → (lK e) → Q (some (.int (1))) p2) (k1 : ∀ b : Nat, ∀ p2 : xH, (hNt T_rd p p2) → (yP (fX p) 4 none oi.toNat (rI p 25 3).toInt.toNat (none, b)) → ((rI p2 25 3).toInt = b) → Q (some (.int (0))) p2), hP ro n d (8, 4, 1, 2, k101) 0 (lv_args 0 [.ref 25, .int o]) [] p Q
def hX_rd5 (ro : List (List Int32)) (n : Nat) : Prop := ∀ {d : Nat} {p : xH} {Q : Option Value → xH → Prop} {o : Int32} {oi : Int} (ho : o.toInt = oi) (pre0 : hTp p) (pre1 : 0 ≤ oi) (k0 : ∀ e : lE, ∀ b : Nat, ∀ p2 : xH, (hNt T_rd p p2) → (yP (fX p) 5 none oi.toNat (rI p 25 3).toInt.toNat (some e, b)) → (XO 0 p p2 (rI p 25 3).toInt.toNat e b) → (lK e) → Q (some (.int (1))) p2) (k1 : ∀ b : Nat, ∀ p2 : xH, (hNt T_rd p p2) → (yP (fX p) 5 none oi.toNat (rI p 25 3).toInt.toNat (none, b)) → ((rI p2 25 3).toInt = b) → Q (some (.int (0))) p2), hP ro n d (8, 4, 1, 2, k102) 0 (lv_args 0 [.ref 25, .int o]) [] p Q
def hX_rdO (ro : List (List Int32)) (n : Nat) : Prop := ∀ {d : Nat} {p : xH} {Q : Option Value → xH → Prop} {c : Int32} {ci : Int} {o : Int32} {oi : Int} (hc : c.toInt = ci) (ho : o.toInt = oi) (pre0 : hTp p) (pre1 : 0 ≤ oi) (pre2 : ci = 33 ∨ ci = 40 ∨ ci = 45) (k0 : ∀ e : lE, ∀ b : Nat, ∀ p2 : xH, (hNt T_rd p p2) → (ci = 40) → (yP (fX p) 0 none oi.toNat (rI p 25 3).toInt.toNat (some e, b)) → (fX p b = 41) → (XO 0 p p2 (rI p 25 3).toInt.toNat e (b + 1)) → (lK e) → Q (some (.int (1))) p2) (k1 : ∀ e : lE, ∀ b : Nat, ∀ p1 : xH, ∀ p2 : xH, (hNt T_rd p p2) → (ci ≠ 40) → (yP (fX p) 5 none oi.toNat (rI p 25 3).toInt.toNat (some e, b)) → (XO 0 p p1 (rI p 25 3).toInt.toNat e b) → (hW p1) → (∃ y : Int32, y.toInt = lun ci ∧ p2 = wV (wV (wV p1 27 (rI p1 26 2).toInt.toNat (.int y)) 28 (rI p1 26 2).toInt.toNat (.int 0)) 26 2 (.int (rI p1 26 2 + 1))) → (lK e) → Q (some (.int (1))) p2) (k2 : ∀ b : Nat, ∀ p2 : xH, (hNt T_rd p p2) → (ci = 40) → (yP (fX p) 0 none oi.toNat (rI p 25 3).toInt.toNat (none, b)) → ((rI p2 25 3).toInt = b) → Q (some (.int (0))) p2) (k3 : ∀ e : lE, ∀ b : Nat, ∀ p2 : xH, (hNt T_rd p p2) → (ci = 40) → (yP (fX p) 0 none oi.toNat (rI p 25 3).toInt.toNat (some e, b)) → (fX p b ≠ 41) → ((rI p2 25 3).toInt = b) → Q (some (.int (0))) p2) (k4 : ∀ b : Nat, ∀ p2 : xH, (hNt T_rd p p2) → (ci ≠ 40) → (yP (fX p) 5 none oi.toNat (rI p 25 3).toInt.toNat (none, b)) → ((rI p2 25 3).toInt = b) → Q (some (.int (0))) p2), hP ro n d (8, 3, 1, 2, k103) 0 (lv_args 0 [.ref 25, .int c, .int o]) [] p Q
def RC_rd (ro : List (List Int32)) (n : Nat) : Prop := hX_rd0 ro n ∧ hX_rd1 ro n ∧ hX_rd2 ro n ∧ hX_rd3 ro n ∧ hX_rd4 ro n ∧ hX_rd5 ro n ∧ hX_rdO ro n
theorem RC_rd_more {ro : List (List Int32)} {n : Nat} (h : RC_rd ro (n + 1)) : RC_rd ro n := ⟨fun ho pre0 pre1 k0 k1 => hp_more (h.1 ho pre0 pre1 k0 k1), fun ho pre0 pre1 k0 k1 => hp_more (h.2.1 ho pre0 pre1 k0 k1), fun ho pre0 pre1 k0 k1 => hp_more (h.2.2.1 ho pre0 pre1 k0 k1), fun ho pre0 pre1 k0 k1 => hp_more (h.2.2.2.1 ho pre0 pre1 k0 k1), fun ho pre0 pre1 k0 k1 => hp_more (h.2.2.2.2.1 ho pre0 pre1 k0 k1), fun ho pre0 pre1 k0 k1 => hp_more (h.2.2.2.2.2.1 ho pre0 pre1 k0 k1), fun hc ho pre0 pre1 pre2 k0 k1 k2 k3 k4 => hp_more (h.2.2.2.2.2.2 hc ho pre0 pre1 pre2 k0 k1 k2 k3 k4)⟩
theorem rX_rd0 {ro : List (List Int32)} {n : Nat} (rc : RC_rd ro n) {d : Nat} {p : xH} {Q : Option Value → xH → Prop} {o : Int32} {oi : Int} (ho : o.toInt = oi) (pre0 : hTp p) (pre1 : 0 ≤ oi) (k0 : ∀ e : lE, ∀ b : Nat, ∀ p2 : xH, (hNt T_rd p p2) → (yP (fX p) 0 none oi.toNat (rI p 25 3).toInt.toNat (some e, b)) → (XO 0 p p2 (rI p 25 3).toInt.toNat e b) → (lK e) → Q (some (.int (1))) p2) (k1 : ∀ b : Nat, ∀ p2 : xH, (hNt T_rd p p2) → (yP (fX p) 0 none oi.toNat (rI p 25 3).toInt.toNat (none, b)) → ((rI p2 25 3).toInt = b) → Q (some (.int (0))) p2) : hP ro n d (8, 3, 1, 2, k97) 0 (lv_args 0 [.ref 25, .int o]) [] p Q := rc.1 ho pre0 pre1 k0 k1
theorem rX_rd1 {ro : List (List Int32)} {n : Nat} (rc : RC_rd ro n) {d : Nat} {p : xH} {Q : Option Value → xH → Prop} {o : Int32} {oi : Int} (ho : o.toInt = oi) (pre0 : hTp p) (pre1 : 0 ≤ oi) (k0 : ∀ e : lE, ∀ b : Nat, ∀ p2 : xH, (hNt T_rd p p2) → (yP (fX p) 1 none oi.toNat (rI p 25 3).toInt.toNat (some e, b)) → (XO 0 p p2 (rI p 25 3).toInt.toNat e b) → (lK e) → Q (some (.int (1))) p2) (k1 : ∀ b : Nat, ∀ p2 : xH, (hNt T_rd p p2) → (yP (fX p) 1 none oi.toNat (rI p 25 3).toInt.toNat (none, b)) → ((rI p2 25 3).toInt = b) → Q (some (.int (0))) p2) : hP ro n d (8, 3, 1, 2, k98) 0 (lv_args 0 [.ref 25, .int o]) [] p Q := rc.2.1 ho pre0 pre1 k0 k1
theorem rX_rd2 {ro : List (List Int32)} {n : Nat} (rc : RC_rd ro n) {d : Nat} {p : xH} {Q : Option Value → xH → Prop} {o : Int32} {oi : Int} (ho : o.toInt = oi) (pre0 : hTp p) (pre1 : 0 ≤ oi) (k0 : ∀ e : lE, ∀ b : Nat, ∀ p2 : xH, (hNt T_rd p p2) → (yP (fX p) 2 none oi.toNat (rI p 25 3).toInt.toNat (some e, b)) → (XO 0 p p2 (rI p 25 3).toInt.toNat e b) → (lK e) → Q (some (.int (1))) p2) (k1 : ∀ b : Nat, ∀ p2 : xH, (hNt T_rd p p2) → (yP (fX p) 2 none oi.toNat (rI p 25 3).toInt.toNat (none, b)) → ((rI p2 25 3).toInt = b) → Q (some (.int (0))) p2) : hP ro n d (8, 3, 1, 2, k99) 0 (lv_args 0 [.ref 25, .int o]) [] p Q := rc.2.2.1 ho pre0 pre1 k0 k1
theorem rX_rd3 {ro : List (List Int32)} {n : Nat} (rc : RC_rd ro n) {d : Nat} {p : xH} {Q : Option Value → xH → Prop} {o : Int32} {oi : Int} (ho : o.toInt = oi) (pre0 : hTp p) (pre1 : 0 ≤ oi) (k0 : ∀ e : lE, ∀ b : Nat, ∀ p2 : xH, (hNt T_rd p p2) → (yP (fX p) 3 none oi.toNat (rI p 25 3).toInt.toNat (some e, b)) → (XO 0 p p2 (rI p 25 3).toInt.toNat e b) → (lK e) → Q (some (.int (1))) p2) (k1 : ∀ b : Nat, ∀ p2 : xH, (hNt T_rd p p2) → (yP (fX p) 3 none oi.toNat (rI p 25 3).toInt.toNat (none, b)) → ((rI p2 25 3).toInt = b) → Q (some (.int (0))) p2) : hP ro n d (8, 4, 1, 2, k100) 0 (lv_args 0 [.ref 25, .int o]) [] p Q := rc.2.2.2.1 ho pre0 pre1 k0 k1
theorem rX_rd4 {ro : List (List Int32)} {n : Nat} (rc : RC_rd ro n) {d : Nat} {p : xH} {Q : Option Value → xH → Prop} {o : Int32} {oi : Int} (ho : o.toInt = oi) (pre0 : hTp p) (pre1 : 0 ≤ oi) (k0 : ∀ e : lE, ∀ b : Nat, ∀ p2 : xH, (hNt T_rd p p2) → (yP (fX p) 4 none oi.toNat (rI p 25 3).toInt.toNat (some e, b)) → (XO 0 p p2 (rI p 25 3).toInt.toNat e b) → (lK e) → Q (some (.int (1))) p2) (k1 : ∀ b : Nat, ∀ p2 : xH, (hNt T_rd p p2) → (yP (fX p) 4 none oi.toNat (rI p 25 3).toInt.toNat (none, b)) → ((rI p2 25 3).toInt = b) → Q (some (.int (0))) p2) : hP ro n d (8, 4, 1, 2, k101) 0 (lv_args 0 [.ref 25, .int o]) [] p Q := rc.2.2.2.2.1 ho pre0 pre1 k0 k1
theorem rX_rd5 {ro : List (List Int32)} {n : Nat} (rc : RC_rd ro n) {d : Nat} {p : xH} {Q : Option Value → xH → Prop} {o : Int32} {oi : Int} (ho : o.toInt = oi) (pre0 : hTp p) (pre1 : 0 ≤ oi) (k0 : ∀ e : lE, ∀ b : Nat, ∀ p2 : xH, (hNt T_rd p p2) → (yP (fX p) 5 none oi.toNat (rI p 25 3).toInt.toNat (some e, b)) → (XO 0 p p2 (rI p 25 3).toInt.toNat e b) → (lK e) → Q (some (.int (1))) p2) (k1 : ∀ b : Nat, ∀ p2 : xH, (hNt T_rd p p2) → (yP (fX p) 5 none oi.toNat (rI p 25 3).toInt.toNat (none, b)) → ((rI p2 25 3).toInt = b) → Q (some (.int (0))) p2) : hP ro n d (8, 4, 1, 2, k102) 0 (lv_args 0 [.ref 25, .int o]) [] p Q := rc.2.2.2.2.2.1 ho pre0 pre1 k0 k1
theorem rX_rdO {ro : List (List Int32)} {n : Nat} (rc : RC_rd ro n) {d : Nat} {p : xH} {Q : Option Value → xH → Prop} {c : Int32} {ci : Int} {o : Int32} {oi : Int} (hc : c.toInt = ci) (ho : o.toInt = oi) (pre0 : hTp p) (pre1 : 0 ≤ oi) (pre2 : ci = 33 ∨ ci = 40 ∨ ci = 45) (k0 : ∀ e : lE, ∀ b : Nat, ∀ p2 : xH, (hNt T_rd p p2) → (ci = 40) → (yP (fX p) 0 none oi.toNat (rI p 25 3).toInt.toNat (some e, b)) → (fX p b = 41) → (XO 0 p p2 (rI p 25 3).toInt.toNat e (b + 1)) → (lK e) → Q (some (.int (1))) p2) (k1 : ∀ e : lE, ∀ b : Nat, ∀ p1 : xH, ∀ p2 : xH, (hNt T_rd p p2) → (ci ≠ 40) → (yP (fX p) 5 none oi.toNat (rI p 25 3).toInt.toNat (some e, b)) → (XO 0 p p1 (rI p 25 3).toInt.toNat e b) → (hW p1) → (∃ y : Int32, y.toInt = lun ci ∧ p2 = wV (wV (wV p1 27 (rI p1 26 2).toInt.toNat (.int y)) 28 (rI p1 26 2).toInt.toNat (.int 0)) 26 2 (.int (rI p1 26 2 + 1))) → (lK e) → Q (some (.int (1))) p2) (k2 : ∀ b : Nat, ∀ p2 : xH, (hNt T_rd p p2) → (ci = 40) → (yP (fX p) 0 none oi.toNat (rI p 25 3).toInt.toNat (none, b)) → ((rI p2 25 3).toInt = b) → Q (some (.int (0))) p2) (k3 : ∀ e : lE, ∀ b : Nat, ∀ p2 : xH, (hNt T_rd p p2) → (ci = 40) → (yP (fX p) 0 none oi.toNat (rI p 25 3).toInt.toNat (some e, b)) → (fX p b ≠ 41) → ((rI p2 25 3).toInt = b) → Q (some (.int (0))) p2) (k4 : ∀ b : Nat, ∀ p2 : xH, (hNt T_rd p p2) → (ci ≠ 40) → (yP (fX p) 5 none oi.toNat (rI p 25 3).toInt.toNat (none, b)) → ((rI p2 25 3).toInt = b) → Q (some (.int (0))) p2) : hP ro n d (8, 3, 1, 2, k103) 0 (lv_args 0 [.ref 25, .int c, .int o]) [] p Q := rc.2.2.2.2.2.2 hc ho pre0 pre1 pre2 k0 k1 k2 k3 k4
theorem lp_97a {ro : List (List Int32)} {d : Nat} {Q : Option Value → xH → Prop} {o : Int32} {p0 : xH} {a : Nat} (g0 : hTp p0) (ga : (rI p0 25 3).toInt = a) (ho : 0 ≤ o.toInt) (K0 : ∀ (e : lE) (b : Nat) (p2 : xH), hNt T_rd p0 p2 → yP (fX p0) 0 none o.toInt.toNat a (some e, b) → XO 0 p0 p2 a e b → lK e → Q (some (.int 1)) p2) (K1 : ∀ (b : Nat) (p2 : xH), hNt T_rd p0 p2 → yP (fX p0) 0 none o.toInt.toNat a (none, b) → (rI p2 25 3).toInt = b → Q (some (.int 0)) p2) : ∀ (n : Nat) (k : Int32) (p : xH) (e : lE) (b : Nat), (RC_rd ro n) → (0 ≤ k.toInt) → (k.toInt ≤ 120) → (k.toInt + a ≤ b) → (XO 0 p0 p a e b) → (lK e) → (∀ r, yP (fX p0) 0 (some e) o.toInt.toNat b r → yP (fX p0) 0 none o.toInt.toNat a r) → hP ro n d (8, 3, 1, 2, k97) 12 [(2, .int k), (0, .ref 25), (1, .int o)] [] p Q := by
  intro n
  induction n with
  | zero => intros; exact hp_0
  | succ n ih =>
    intro k p e b rc h1 h2 hb hX hK hr
    replace rc := RC_rd_more rc
    refine hp_hw (fun wp => ?_)
    have x1 := hX.2.1
    have x2 := hX.2.2.1
    have x3 := hX.2.2.2.1
    have x4 := hX.2.2.2.2.1
    have hfb : fX p (rI p 25 3).toInt.toNat = fX p0 b := by rw [fX_nt hX.1, i_to x1]
    obtain ⟨t1, t2, t3, t4, t5⟩ := g0
    have g0 : hTp p0 := ⟨t1, t2, t3, t4, t5⟩
    have hTp1 := XO_tp g0 ga (by decide) hX
    refine hp_s1 (pc' := 13) (st' := [.int k]) rfl rfl rfl ?_
    refine hp_s (pc' := 15) (st' := [.int 120, .int k]) rfl rfl rfl ?_
    refine hp_ic (pc' := 18) (t := 53) (a := k.toInt) (b := 120) rfl rfl rfl rfl (by decide) (fun (h1 : 120 ≤ k.toInt) => ?_) (fun (h2 : ¬ (120 ≤ k.toInt)) => ?_)
    ·
      refine hp_s (pc' := 54) (st' := [.int 1]) rfl rfl rfl ?_
      refine hp_rb rfl rfl (fun _ => ?_)
      exact K0 e b p hX.1 (hr _ (yP_le (by first | (have q := fX_end (p := p0) (j := b) (by omega); unfold lop; omega) | (unfold lop; omega)))) hX hK
    ·
      refine hp_s (pc' := 19) (st' := [.ref 25]) rfl rfl rfl ?_
      refine hp_s (pc' := 21) (st' := [.int 124, .ref 25]) rfl rfl rfl ?_
      refine hp_cv (r := 25) (o := 8) (kd := 1) (as := [.int 124]) (rest := []) (pc' := 24) rfl rfl rfl rfl rfl rfl rfl rfl rfl (fun d1 => ?_)
      refine s_passOver (ci := 124) (by decide) (by first | assumption | omega) ?_ ?_
      ·
        intro p1 ep1 h3
        have hop : lop 0 (fX p0 b) := by unfold lop; omega
        have hin := fX_in (p := p0) (j := b) (by unfold lop at hop; omega)
        have hX1 := XO_at (z := rI p 25 3 + 1) hX wp (by have q := i_add (z := rI p 25 3 + 1) rfl rfl (show (1 : Int32).toInt = 1 from by decide); omega) hin ep1
        have hT1 := XO_tp g0 ga (by decide) hX1
        have hf1 := fX_nt hX1.1
        have hq := i_to hX1.2.1
        refine hp_id (st := [.int 1]) ?_
        refine hp_go (pc' := 27) rfl rfl rfl ?_
        refine hp_s (pc' := 28) (st' := [.ref 25]) rfl rfl rfl ?_
        refine hp_s (pc' := 29) (st' := [.int o, .ref 25]) rfl rfl rfl ?_
        refine hp_cv (r := 25) (o := 8) (kd := 1) (as := [.int o]) (rest := []) (pc' := 32) rfl rfl rfl rfl rfl rfl rfl rfl rfl (fun d2 => ?_)
        refine rX_rd1 rc (oi := o.toInt) rfl (by first | assumption | omega) (by first | assumption | omega) ?_ ?_
        ·
          intro y1 y2 p2 h4 h5 h6 h7
          refine hp_hw (fun wq => ?_)
          rw [hf1, hq] at h5
          rw [hq] at h6
          have hX2 := XO_tr g0.2.2.2.1 hX1 h6
          have f3 := hX2.2.2.1
          have f4 := hX2.2.2.2.1
          have f5 := hX2.2.2.2.2.1
          have f6 := h6.2.2.2.1
          refine hp_id (st := [.int 1]) ?_
          refine hp_go (pc' := 37) rfl rfl rfl ?_
          refine hp_s (pc' := 38) (st' := [.ref 25]) rfl rfl rfl ?_
          refine hp_getr (k := 0) (w := .ref 26) (pc' := 41) rfl rfl rfl rfl rfl ?_
          refine hp_s (pc' := 43) (st' := [.int 124, .ref 26]) rfl rfl rfl ?_
          refine hp_s (pc' := 44) (st' := [.int 0, .int 124, .ref 26]) rfl rfl rfl ?_
          refine hp_cv (r := 26) (o := 3) (kd := 1) (as := [.int 124, .int 0]) (rest := []) (pc' := 47) rfl rfl rfl rfl rfl rfl rfl rfl rfl (fun d3 => ?_)
          refine s_addD (xi := 124) (by decide) (yi := 0) (by decide) (by first | assumption | omega) ?_
          intro p3 ep3
          have hX3 := XO_ad (k := 0) (c := fX p0 b) g0 ga (by decide) (XO_k hX2 (by decide)) wq (by have q : (124 : Int32).toInt = 124 := (by decide); omega) ep3
          refine hp_id (st := []) ?_
          refine hp_inc (L := fun z => [(2, .int z), (0, .ref 25), (1, .int o)]) (pc' := 50) rfl rfl rfl (fun _ => rfl) rfl ?_
          intro z1 hz1
          have ez1 := i_add hz1 (show k.toInt = k.toInt from rfl) (show (Int32.ofInt 1).toInt = 1 from by decide)
          refine hp_go (pc' := 12) rfl rfl rfl ?_
          exact ih z1 _ _ _ rc (by omega) (by omega) (by omega) hX3 (lK_bin hop hK h7) (fun r h => hr r (yP_lm hop h5 h))
        ·
          intro y3 p4 h8 h9 h10
          rw [hf1, hq] at h9
          refine hp_id (st := [.int 0]) ?_
          refine hp_go (pc' := 35) rfl rfl rfl ?_
          refine hp_s (pc' := 36) (st' := [.int 0]) rfl rfl rfl ?_
          refine hp_rb rfl rfl (fun _ => ?_)
          exact K1 _ _ ((hX1.1).trans h8) (hr _ (yP_lx hop h9)) h10
      ·
        intro h11
        have hno : fX p0 b ≠ 124 := by rw [← hfb]; exact h11
        refine hp_id (st := [.int 0]) ?_
        refine hp_go (pc' := 53) rfl rfl rfl ?_
        refine hp_s (pc' := 54) (st' := [.int 1]) rfl rfl rfl ?_
        refine hp_rb rfl rfl (fun _ => ?_)
        exact K0 e b p hX.1 (hr _ (yP_le (by first | (have q := fX_end (p := p0) (j := b) (by omega); unfold lop; omega) | (unfold lop; omega)))) hX hK
theorem tX_rd0 {ro : List (List Int32)} {n : Nat} (rc : RC_rd ro n) : hX_rd0 ro (n + 1) := by
  intro d p Q o oi ho pre0 pre1 k0 k1
  subst ho
  refine hp_id (ls := [(0, .ref 25), (1, .int o)]) ?_
  refine hp_s1 (pc' := 1) (st' := [.ref 25]) rfl rfl rfl ?_
  refine hp_s (pc' := 2) (st' := [.int o, .ref 25]) rfl rfl rfl ?_
  refine hp_cv (r := 25) (o := 8) (kd := 1) (as := [.int o]) (rest := []) (pc' := 5) rfl rfl rfl rfl rfl rfl rfl rfl rfl (fun d1 => ?_)
  refine rX_rd1 rc (oi := o.toInt) rfl (by first | assumption | omega) (by first | assumption | omega) ?_ ?_
  ·
    intro y1 y2 p1 h1 h2 h3 h4
    skip
    refine hp_id (st := [.int 1]) ?_
    refine hp_go (pc' := 10) rfl rfl rfl ?_
    refine hp_s (pc' := 11) (st' := [.int 0]) rfl rfl rfl ?_
    refine hp_s (pc' := 12) (ls' := [(2, .int 0), (0, .ref 25), (1, .int o)]) (st' := []) rfl rfl rfl ?_
    exact lp_97a (o := o) (p0 := p) (a := (rI p 25 3).toInt.toNat) pre0 (by have := pre0.1; omega) pre1 k0 k1 n 0 _ _ _ rc (by decide) (by decide) (by have q := h3.2.2.2.1; have h00 : (0 : Int32).toInt = 0 := (by decide); omega) h3 h4 (fun r h => yP_lo (by decide) (by decide) h2 h)
  ·
    intro y3 p2 h5 h6 h7
    skip
    refine hp_id (st := [.int 0]) ?_
    refine hp_go (pc' := 8) rfl rfl rfl ?_
    refine hp_s (pc' := 9) (st' := [.int 0]) rfl rfl rfl ?_
    refine hp_rb rfl rfl (fun _ => ?_)
    exact k1 _ _ h5 (yP_lb (by decide) h6) h7
theorem lp_98a {ro : List (List Int32)} {d : Nat} {Q : Option Value → xH → Prop} {o : Int32} {p0 : xH} {a : Nat} (g0 : hTp p0) (ga : (rI p0 25 3).toInt = a) (ho : 0 ≤ o.toInt) (K0 : ∀ (e : lE) (b : Nat) (p2 : xH), hNt T_rd p0 p2 → yP (fX p0) 1 none o.toInt.toNat a (some e, b) → XO 0 p0 p2 a e b → lK e → Q (some (.int 1)) p2) (K1 : ∀ (b : Nat) (p2 : xH), hNt T_rd p0 p2 → yP (fX p0) 1 none o.toInt.toNat a (none, b) → (rI p2 25 3).toInt = b → Q (some (.int 0)) p2) : ∀ (n : Nat) (k : Int32) (p : xH) (e : lE) (b : Nat), (RC_rd ro n) → (0 ≤ k.toInt) → (k.toInt ≤ 120) → (k.toInt + a ≤ b) → (XO 0 p0 p a e b) → (lK e) → (∀ r, yP (fX p0) 1 (some e) o.toInt.toNat b r → yP (fX p0) 1 none o.toInt.toNat a r) → hP ro n d (8, 3, 1, 2, k98) 12 [(2, .int k), (0, .ref 25), (1, .int o)] [] p Q := by
  intro n
  induction n with
  | zero => intros; exact hp_0
  | succ n ih =>
    intro k p e b rc h1 h2 hb hX hK hr
    replace rc := RC_rd_more rc
    refine hp_hw (fun wp => ?_)
    have x1 := hX.2.1
    have x2 := hX.2.2.1
    have x3 := hX.2.2.2.1
    have x4 := hX.2.2.2.2.1
    have hfb : fX p (rI p 25 3).toInt.toNat = fX p0 b := by rw [fX_nt hX.1, i_to x1]
    obtain ⟨t1, t2, t3, t4, t5⟩ := g0
    have g0 : hTp p0 := ⟨t1, t2, t3, t4, t5⟩
    have hTp1 := XO_tp g0 ga (by decide) hX
    refine hp_s1 (pc' := 13) (st' := [.int k]) rfl rfl rfl ?_
    refine hp_s (pc' := 15) (st' := [.int 120, .int k]) rfl rfl rfl ?_
    refine hp_ic (pc' := 18) (t := 53) (a := k.toInt) (b := 120) rfl rfl rfl rfl (by decide) (fun (h1 : 120 ≤ k.toInt) => ?_) (fun (h2 : ¬ (120 ≤ k.toInt)) => ?_)
    ·
      refine hp_s (pc' := 54) (st' := [.int 1]) rfl rfl rfl ?_
      refine hp_rb rfl rfl (fun _ => ?_)
      exact K0 e b p hX.1 (hr _ (yP_le (by first | (have q := fX_end (p := p0) (j := b) (by omega); unfold lop; omega) | (unfold lop; omega)))) hX hK
    ·
      refine hp_s (pc' := 19) (st' := [.ref 25]) rfl rfl rfl ?_
      refine hp_s (pc' := 21) (st' := [.int 38, .ref 25]) rfl rfl rfl ?_
      refine hp_cv (r := 25) (o := 8) (kd := 1) (as := [.int 38]) (rest := []) (pc' := 24) rfl rfl rfl rfl rfl rfl rfl rfl rfl (fun d1 => ?_)
      refine s_passOver (ci := 38) (by decide) (by first | assumption | omega) ?_ ?_
      ·
        intro p1 ep1 h3
        have hop : lop 1 (fX p0 b) := by unfold lop; omega
        have hin := fX_in (p := p0) (j := b) (by unfold lop at hop; omega)
        have hX1 := XO_at (z := rI p 25 3 + 1) hX wp (by have q := i_add (z := rI p 25 3 + 1) rfl rfl (show (1 : Int32).toInt = 1 from by decide); omega) hin ep1
        have hT1 := XO_tp g0 ga (by decide) hX1
        have hf1 := fX_nt hX1.1
        have hq := i_to hX1.2.1
        refine hp_id (st := [.int 1]) ?_
        refine hp_go (pc' := 27) rfl rfl rfl ?_
        refine hp_s (pc' := 28) (st' := [.ref 25]) rfl rfl rfl ?_
        refine hp_s (pc' := 29) (st' := [.int o, .ref 25]) rfl rfl rfl ?_
        refine hp_cv (r := 25) (o := 8) (kd := 1) (as := [.int o]) (rest := []) (pc' := 32) rfl rfl rfl rfl rfl rfl rfl rfl rfl (fun d2 => ?_)
        refine rX_rd2 rc (oi := o.toInt) rfl (by first | assumption | omega) (by first | assumption | omega) ?_ ?_
        ·
          intro y1 y2 p2 h4 h5 h6 h7
          refine hp_hw (fun wq => ?_)
          rw [hf1, hq] at h5
          rw [hq] at h6
          have hX2 := XO_tr g0.2.2.2.1 hX1 h6
          have f3 := hX2.2.2.1
          have f4 := hX2.2.2.2.1
          have f5 := hX2.2.2.2.2.1
          have f6 := h6.2.2.2.1
          refine hp_id (st := [.int 1]) ?_
          refine hp_go (pc' := 37) rfl rfl rfl ?_
          refine hp_s (pc' := 38) (st' := [.ref 25]) rfl rfl rfl ?_
          refine hp_getr (k := 0) (w := .ref 26) (pc' := 41) rfl rfl rfl rfl rfl ?_
          refine hp_s (pc' := 43) (st' := [.int 38, .ref 26]) rfl rfl rfl ?_
          refine hp_s (pc' := 44) (st' := [.int 0, .int 38, .ref 26]) rfl rfl rfl ?_
          refine hp_cv (r := 26) (o := 3) (kd := 1) (as := [.int 38, .int 0]) (rest := []) (pc' := 47) rfl rfl rfl rfl rfl rfl rfl rfl rfl (fun d3 => ?_)
          refine s_addD (xi := 38) (by decide) (yi := 0) (by decide) (by first | assumption | omega) ?_
          intro p3 ep3
          have hX3 := XO_ad (k := 0) (c := fX p0 b) g0 ga (by decide) (XO_k hX2 (by decide)) wq (by have q : (38 : Int32).toInt = 38 := (by decide); omega) ep3
          refine hp_id (st := []) ?_
          refine hp_inc (L := fun z => [(2, .int z), (0, .ref 25), (1, .int o)]) (pc' := 50) rfl rfl rfl (fun _ => rfl) rfl ?_
          intro z1 hz1
          have ez1 := i_add hz1 (show k.toInt = k.toInt from rfl) (show (Int32.ofInt 1).toInt = 1 from by decide)
          refine hp_go (pc' := 12) rfl rfl rfl ?_
          exact ih z1 _ _ _ rc (by omega) (by omega) (by omega) hX3 (lK_bin hop hK h7) (fun r h => hr r (yP_lm hop h5 h))
        ·
          intro y3 p4 h8 h9 h10
          rw [hf1, hq] at h9
          refine hp_id (st := [.int 0]) ?_
          refine hp_go (pc' := 35) rfl rfl rfl ?_
          refine hp_s (pc' := 36) (st' := [.int 0]) rfl rfl rfl ?_
          refine hp_rb rfl rfl (fun _ => ?_)
          exact K1 _ _ ((hX1.1).trans h8) (hr _ (yP_lx hop h9)) h10
      ·
        intro h11
        have hno : fX p0 b ≠ 38 := by rw [← hfb]; exact h11
        refine hp_id (st := [.int 0]) ?_
        refine hp_go (pc' := 53) rfl rfl rfl ?_
        refine hp_s (pc' := 54) (st' := [.int 1]) rfl rfl rfl ?_
        refine hp_rb rfl rfl (fun _ => ?_)
        exact K0 e b p hX.1 (hr _ (yP_le (by first | (have q := fX_end (p := p0) (j := b) (by omega); unfold lop; omega) | (unfold lop; omega)))) hX hK
theorem tX_rd1 {ro : List (List Int32)} {n : Nat} (rc : RC_rd ro n) : hX_rd1 ro (n + 1) := by
  intro d p Q o oi ho pre0 pre1 k0 k1
  subst ho
  refine hp_id (ls := [(0, .ref 25), (1, .int o)]) ?_
  refine hp_s1 (pc' := 1) (st' := [.ref 25]) rfl rfl rfl ?_
  refine hp_s (pc' := 2) (st' := [.int o, .ref 25]) rfl rfl rfl ?_
  refine hp_cv (r := 25) (o := 8) (kd := 1) (as := [.int o]) (rest := []) (pc' := 5) rfl rfl rfl rfl rfl rfl rfl rfl rfl (fun d1 => ?_)
  refine rX_rd2 rc (oi := o.toInt) rfl (by first | assumption | omega) (by first | assumption | omega) ?_ ?_
  ·
    intro y1 y2 p1 h1 h2 h3 h4
    skip
    refine hp_id (st := [.int 1]) ?_
    refine hp_go (pc' := 10) rfl rfl rfl ?_
    refine hp_s (pc' := 11) (st' := [.int 0]) rfl rfl rfl ?_
    refine hp_s (pc' := 12) (ls' := [(2, .int 0), (0, .ref 25), (1, .int o)]) (st' := []) rfl rfl rfl ?_
    exact lp_98a (o := o) (p0 := p) (a := (rI p 25 3).toInt.toNat) pre0 (by have := pre0.1; omega) pre1 k0 k1 n 0 _ _ _ rc (by decide) (by decide) (by have q := h3.2.2.2.1; have h00 : (0 : Int32).toInt = 0 := (by decide); omega) h3 h4 (fun r h => yP_lo (by decide) (by decide) h2 h)
  ·
    intro y3 p2 h5 h6 h7
    skip
    refine hp_id (st := [.int 0]) ?_
    refine hp_go (pc' := 8) rfl rfl rfl ?_
    refine hp_s (pc' := 9) (st' := [.int 0]) rfl rfl rfl ?_
    refine hp_rb rfl rfl (fun _ => ?_)
    exact k1 _ _ h5 (yP_lb (by decide) h6) h7
theorem tX_rd2 {ro : List (List Int32)} {n : Nat} (rc : RC_rd ro n) : hX_rd2 ro (n + 1) := by
  intro d p Q o oi ho pre0 pre1 k0 k1
  subst ho
  refine hp_id (ls := [(0, .ref 25), (1, .int o)]) ?_
  obtain ⟨t1, t2, t3, t4, t5⟩ := pre0
  have pre0 : hTp p := ⟨t1, t2, t3, t4, t5⟩
  have ga : (rI p 25 3).toInt = ((rI p 25 3).toInt.toNat : Nat) := by omega
  refine hp_s1 (pc' := 1) (st' := [.ref 25]) rfl rfl rfl ?_
  refine hp_s (pc' := 2) (st' := [.int o, .ref 25]) rfl rfl rfl ?_
  refine hp_cv (r := 25) (o := 8) (kd := 1) (as := [.int o]) (rest := []) (pc' := 5) rfl rfl rfl rfl rfl rfl rfl rfl rfl (fun d1 => ?_)
  refine rX_rd3 rc (oi := o.toInt) rfl (by first | assumption | omega) (by first | assumption | omega) ?_ ?_
  ·
    intro y1 y2 p1 h1 h2 h3 h4
    refine hp_hw (fun wp => ?_)
    have hX := h3
    have x1 := hX.2.1
    have hT := XO_tp pre0 ga (by decide) hX
    have hfb : fX p1 (rI p1 25 3).toInt.toNat = fX p y2 := by rw [fX_nt hX.1, i_to x1]
    refine hp_id (st := [.int 1]) ?_
    refine hp_go (pc' := 10) rfl rfl rfl ?_
    refine hp_s (pc' := 11) (st' := [.ref 25]) rfl rfl rfl ?_
    refine hp_cv (r := 25) (o := 8) (kd := 1) (as := []) (rest := []) (pc' := 14) rfl rfl rfl rfl rfl rfl rfl rfl rfl (fun d2 => ?_)
    refine s_next (by first | assumption | omega) ?_
    intro y3 h5
    have hs : y3.toInt = fX p _ := h5.trans hfb
    refine hp_id (st := [.int y3]) ?_
    refine hp_s (pc' := 15) (ls' := [(2, .int y3), (0, .ref 25), (1, .int o)]) (st' := []) rfl rfl rfl ?_
    refine hp_s (pc' := 16) (st' := [.int y3]) rfl rfl rfl ?_
    refine hp_s (pc' := 18) (st' := [.int 60, .int y3]) rfl rfl rfl ?_
    refine hp_ic (pc' := 21) (t := 35) (a := y3.toInt) (b := 60) rfl rfl rfl rfl (by decide) (fun (h6 : y3.toInt = 60) => ?_) (fun (h7 : ¬ (y3.toInt = 60)) => ?_)
    ·
      refine hp_s (pc' := 36) (st' := [.ref 25]) rfl rfl rfl ?_
      refine hp_s (pc' := 37) (st' := [.ref 25, .ref 25]) rfl rfl rfl ?_
      refine hp_get (k := 3) (pc' := 40) (v := (rI p1 25 3)) rfl rfl rfl rfl rfl rfl ?_
      refine hp_s (pc' := 41) (st' := [.int 1, .int (rI p1 25 3), .ref 25]) rfl rfl rfl ?_
      refine hp_z (pc' := 42) (e := (rI p1 25 3) + 1) (st' := [.ref 25]) rfl rfl rfl ?_
      intro z1 hz1
      have ez1 := i_add hz1 (show (rI p1 25 3).toInt = (rI p1 25 3).toInt from rfl) (show (1 : Int32).toInt = 1 from by decide)
      refine hp_put (k := 3) (pc' := 45) rfl rfl rfl rfl rfl ?_
      intro p2 wp2 ep2
      have hop : lop 2 (fX p y2) := by unfold lop; omega
      have hin := fX_in (p := p) (j := y2) (by unfold lop at hop; omega)
      have hX1 := XO_at (z := z1) hX wp (by omega) hin ep2
      have hT1 := XO_tp pre0 ga (by decide) hX1
      have hf1 := fX_nt hX1.1
      have hq := i_to hX1.2.1
      refine hp_s (pc' := 46) (st' := [.ref 25]) rfl rfl rfl ?_
      refine hp_s (pc' := 47) (st' := [.int o, .ref 25]) rfl rfl rfl ?_
      refine hp_cv (r := 25) (o := 8) (kd := 1) (as := [.int o]) (rest := []) (pc' := 50) rfl rfl rfl rfl rfl rfl rfl rfl rfl (fun d3 => ?_)
      refine rX_rd3 rc (oi := o.toInt) rfl (by first | assumption | omega) (by first | assumption | omega) ?_ ?_
      ·
        intro y4 y5 p3 h8 h9 h10 h11
        refine hp_hw (fun wq => ?_)
        rw [hf1, hq] at h9
        rw [hq] at h10
        have hX2 := XO_tr pre0.2.2.2.1 hX1 h10
        have f3 := hX2.2.2.1
        have f4 := hX2.2.2.2.1
        have f5 := hX2.2.2.2.2.1
        refine hp_id (st := [.int 1]) ?_
        refine hp_go (pc' := 55) rfl rfl rfl ?_
        refine hp_s (pc' := 56) (st' := [.ref 25]) rfl rfl rfl ?_
        refine hp_getr (k := 0) (w := .ref 26) (pc' := 59) rfl rfl rfl rfl rfl ?_
        refine hp_s (pc' := 60) (st' := [.int y3, .ref 26]) rfl rfl rfl ?_
        refine hp_s (pc' := 61) (st' := [.int 0, .int y3, .ref 26]) rfl rfl rfl ?_
        refine hp_cv (r := 26) (o := 3) (kd := 1) (as := [.int y3, .int 0]) (rest := []) (pc' := 64) rfl rfl rfl rfl rfl rfl rfl rfl rfl (fun d4 => ?_)
        refine s_addD (xi := y3.toInt) rfl (yi := 0) (by decide) (by first | assumption | omega) ?_
        intro p4 ep4
        have hX3 := XO_ad (k := 0) pre0 ga (by decide) (XO_k hX2 (by decide)) wq hs ep4
        refine hp_id (st := []) ?_
        refine hp_s (pc' := 65) (st' := [.int 1]) rfl rfl rfl ?_
        refine hp_rb rfl rfl (fun _ => ?_)
        exact k0 _ _ _ hX3.1 (yP_c2 h2 hop h9) hX3 (lK_bin hop h4 h11)
      ·
        intro y6 p5 h12 h13 h14
        rw [hf1, hq] at h13
        refine hp_id (st := [.int 0]) ?_
        refine hp_go (pc' := 53) rfl rfl rfl ?_
        refine hp_s (pc' := 54) (st' := [.int 0]) rfl rfl rfl ?_
        refine hp_rb rfl rfl (fun _ => ?_)
        exact k1 _ _ ((hX1.1).trans h12) (yP_c3 h2 hop h13) h14
    ·
      refine hp_s (pc' := 22) (st' := [.int y3]) rfl rfl rfl ?_
      refine hp_s (pc' := 24) (st' := [.int 61, .int y3]) rfl rfl rfl ?_
      refine hp_ic (pc' := 27) (t := 35) (a := y3.toInt) (b := 61) rfl rfl rfl rfl (by decide) (fun (h15 : y3.toInt = 61) => ?_) (fun (h16 : ¬ (y3.toInt = 61)) => ?_)
      ·
        refine hp_s (pc' := 36) (st' := [.ref 25]) rfl rfl rfl ?_
        refine hp_s (pc' := 37) (st' := [.ref 25, .ref 25]) rfl rfl rfl ?_
        refine hp_get (k := 3) (pc' := 40) (v := (rI p1 25 3)) rfl rfl rfl rfl rfl rfl ?_
        refine hp_s (pc' := 41) (st' := [.int 1, .int (rI p1 25 3), .ref 25]) rfl rfl rfl ?_
        refine hp_z (pc' := 42) (e := (rI p1 25 3) + 1) (st' := [.ref 25]) rfl rfl rfl ?_
        intro z2 hz2
        have ez2 := i_add hz2 (show (rI p1 25 3).toInt = (rI p1 25 3).toInt from rfl) (show (1 : Int32).toInt = 1 from by decide)
        refine hp_put (k := 3) (pc' := 45) rfl rfl rfl rfl rfl ?_
        intro p6 wp6 ep6
        have hop : lop 2 (fX p y2) := by unfold lop; omega
        have hin := fX_in (p := p) (j := y2) (by unfold lop at hop; omega)
        have hX1 := XO_at (z := z2) hX wp (by omega) hin ep6
        have hT1 := XO_tp pre0 ga (by decide) hX1
        have hf1 := fX_nt hX1.1
        have hq := i_to hX1.2.1
        refine hp_s (pc' := 46) (st' := [.ref 25]) rfl rfl rfl ?_
        refine hp_s (pc' := 47) (st' := [.int o, .ref 25]) rfl rfl rfl ?_
        refine hp_cv (r := 25) (o := 8) (kd := 1) (as := [.int o]) (rest := []) (pc' := 50) rfl rfl rfl rfl rfl rfl rfl rfl rfl (fun d5 => ?_)
        refine rX_rd3 rc (oi := o.toInt) rfl (by first | assumption | omega) (by first | assumption | omega) ?_ ?_
        ·
          intro y7 y8 p7 h17 h18 h19 h20
          refine hp_hw (fun wq => ?_)
          rw [hf1, hq] at h18
          rw [hq] at h19
          have hX2 := XO_tr pre0.2.2.2.1 hX1 h19
          have f3 := hX2.2.2.1
          have f4 := hX2.2.2.2.1
          have f5 := hX2.2.2.2.2.1
          refine hp_id (st := [.int 1]) ?_
          refine hp_go (pc' := 55) rfl rfl rfl ?_
          refine hp_s (pc' := 56) (st' := [.ref 25]) rfl rfl rfl ?_
          refine hp_getr (k := 0) (w := .ref 26) (pc' := 59) rfl rfl rfl rfl rfl ?_
          refine hp_s (pc' := 60) (st' := [.int y3, .ref 26]) rfl rfl rfl ?_
          refine hp_s (pc' := 61) (st' := [.int 0, .int y3, .ref 26]) rfl rfl rfl ?_
          refine hp_cv (r := 26) (o := 3) (kd := 1) (as := [.int y3, .int 0]) (rest := []) (pc' := 64) rfl rfl rfl rfl rfl rfl rfl rfl rfl (fun d6 => ?_)
          refine s_addD (xi := y3.toInt) rfl (yi := 0) (by decide) (by first | assumption | omega) ?_
          intro p8 ep8
          have hX3 := XO_ad (k := 0) pre0 ga (by decide) (XO_k hX2 (by decide)) wq hs ep8
          refine hp_id (st := []) ?_
          refine hp_s (pc' := 65) (st' := [.int 1]) rfl rfl rfl ?_
          refine hp_rb rfl rfl (fun _ => ?_)
          exact k0 _ _ _ hX3.1 (yP_c2 h2 hop h18) hX3 (lK_bin hop h4 h20)
        ·
          intro y9 p9 h21 h22 h23
          rw [hf1, hq] at h22
          refine hp_id (st := [.int 0]) ?_
          refine hp_go (pc' := 53) rfl rfl rfl ?_
          refine hp_s (pc' := 54) (st' := [.int 0]) rfl rfl rfl ?_
          refine hp_rb rfl rfl (fun _ => ?_)
          exact k1 _ _ ((hX1.1).trans h21) (yP_c3 h2 hop h22) h23
      ·
        refine hp_s (pc' := 28) (st' := [.int y3]) rfl rfl rfl ?_
        refine hp_s (pc' := 30) (st' := [.int 62, .int y3]) rfl rfl rfl ?_
        refine hp_ic (pc' := 33) (t := 35) (a := y3.toInt) (b := 62) rfl rfl rfl rfl (by decide) (fun (h24 : y3.toInt = 62) => ?_) (fun (h25 : ¬ (y3.toInt = 62)) => ?_)
        ·
          refine hp_s (pc' := 36) (st' := [.ref 25]) rfl rfl rfl ?_
          refine hp_s (pc' := 37) (st' := [.ref 25, .ref 25]) rfl rfl rfl ?_
          refine hp_get (k := 3) (pc' := 40) (v := (rI p1 25 3)) rfl rfl rfl rfl rfl rfl ?_
          refine hp_s (pc' := 41) (st' := [.int 1, .int (rI p1 25 3), .ref 25]) rfl rfl rfl ?_
          refine hp_z (pc' := 42) (e := (rI p1 25 3) + 1) (st' := [.ref 25]) rfl rfl rfl ?_
          intro z3 hz3
          have ez3 := i_add hz3 (show (rI p1 25 3).toInt = (rI p1 25 3).toInt from rfl) (show (1 : Int32).toInt = 1 from by decide)
          refine hp_put (k := 3) (pc' := 45) rfl rfl rfl rfl rfl ?_
          intro p10 wp10 ep10
          have hop : lop 2 (fX p y2) := by unfold lop; omega
          have hin := fX_in (p := p) (j := y2) (by unfold lop at hop; omega)
          have hX1 := XO_at (z := z3) hX wp (by omega) hin ep10
          have hT1 := XO_tp pre0 ga (by decide) hX1
          have hf1 := fX_nt hX1.1
          have hq := i_to hX1.2.1
          refine hp_s (pc' := 46) (st' := [.ref 25]) rfl rfl rfl ?_
          refine hp_s (pc' := 47) (st' := [.int o, .ref 25]) rfl rfl rfl ?_
          refine hp_cv (r := 25) (o := 8) (kd := 1) (as := [.int o]) (rest := []) (pc' := 50) rfl rfl rfl rfl rfl rfl rfl rfl rfl (fun d7 => ?_)
          refine rX_rd3 rc (oi := o.toInt) rfl (by first | assumption | omega) (by first | assumption | omega) ?_ ?_
          ·
            intro y10 y11 p11 h26 h27 h28 h29
            refine hp_hw (fun wq => ?_)
            rw [hf1, hq] at h27
            rw [hq] at h28
            have hX2 := XO_tr pre0.2.2.2.1 hX1 h28
            have f3 := hX2.2.2.1
            have f4 := hX2.2.2.2.1
            have f5 := hX2.2.2.2.2.1
            refine hp_id (st := [.int 1]) ?_
            refine hp_go (pc' := 55) rfl rfl rfl ?_
            refine hp_s (pc' := 56) (st' := [.ref 25]) rfl rfl rfl ?_
            refine hp_getr (k := 0) (w := .ref 26) (pc' := 59) rfl rfl rfl rfl rfl ?_
            refine hp_s (pc' := 60) (st' := [.int y3, .ref 26]) rfl rfl rfl ?_
            refine hp_s (pc' := 61) (st' := [.int 0, .int y3, .ref 26]) rfl rfl rfl ?_
            refine hp_cv (r := 26) (o := 3) (kd := 1) (as := [.int y3, .int 0]) (rest := []) (pc' := 64) rfl rfl rfl rfl rfl rfl rfl rfl rfl (fun d8 => ?_)
            refine s_addD (xi := y3.toInt) rfl (yi := 0) (by decide) (by first | assumption | omega) ?_
            intro p12 ep12
            have hX3 := XO_ad (k := 0) pre0 ga (by decide) (XO_k hX2 (by decide)) wq hs ep12
            refine hp_id (st := []) ?_
            refine hp_s (pc' := 65) (st' := [.int 1]) rfl rfl rfl ?_
            refine hp_rb rfl rfl (fun _ => ?_)
            exact k0 _ _ _ hX3.1 (yP_c2 h2 hop h27) hX3 (lK_bin hop h4 h29)
          ·
            intro y12 p13 h30 h31 h32
            rw [hf1, hq] at h31
            refine hp_id (st := [.int 0]) ?_
            refine hp_go (pc' := 53) rfl rfl rfl ?_
            refine hp_s (pc' := 54) (st' := [.int 0]) rfl rfl rfl ?_
            refine hp_rb rfl rfl (fun _ => ?_)
            exact k1 _ _ ((hX1.1).trans h30) (yP_c3 h2 hop h31) h32
        ·
          refine hp_s (pc' := 34) (st' := [.int 1]) rfl rfl rfl ?_
          refine hp_rb rfl rfl (fun _ => ?_)
          exact k0 _ _ _ hX.1 (yP_c1 h2 (by unfold lop; omega)) hX h4
  ·
    intro y13 p14 h33 h34 h35
    skip
    refine hp_id (st := [.int 0]) ?_
    refine hp_go (pc' := 8) rfl rfl rfl ?_
    refine hp_s (pc' := 9) (st' := [.int 0]) rfl rfl rfl ?_
    refine hp_rb rfl rfl (fun _ => ?_)
    exact k1 _ _ h33 (yP_lb (by decide) h34) h35
theorem lp_100b {ro : List (List Int32)} {d : Nat} {Q : Option Value → xH → Prop} {o : Int32} {p0 : xH} {a : Nat} (g0 : hTp p0) (ga : (rI p0 25 3).toInt = a) (ho : 0 ≤ o.toInt) (K0 : ∀ (e : lE) (b : Nat) (p2 : xH), hNt T_rd p0 p2 → yP (fX p0) 3 none o.toInt.toNat a (some e, b) → XO 0 p0 p2 a e b → lK e → Q (some (.int 1)) p2) (K1 : ∀ (b : Nat) (p2 : xH), hNt T_rd p0 p2 → yP (fX p0) 3 none o.toInt.toNat a (none, b) → (rI p2 25 3).toInt = b → Q (some (.int 0)) p2) : ∀ (n : Nat) (k : Int32) (t : Int32) (p : xH) (e : lE) (b : Nat), (RC_rd ro n) → (0 ≤ k.toInt) → (k.toInt ≤ 120) → (k.toInt + a ≤ b) → (XO 0 p0 p a e b) → (lK e) → (∀ r, yP (fX p0) 3 (some e) o.toInt.toNat b r → yP (fX p0) 3 none o.toInt.toNat a r) → hP ro n d (8, 4, 1, 2, k100) 12 [(2, .int k), (3, .int t), (0, .ref 25), (1, .int o)] [] p Q := by
  intro n
  induction n with
  | zero => intros; exact hp_0
  | succ n ih =>
    intro k t p e b rc h1 h2 hb hX hK hr
    replace rc := RC_rd_more rc
    refine hp_hw (fun wp => ?_)
    have x1 := hX.2.1
    have x2 := hX.2.2.1
    have x3 := hX.2.2.2.1
    have x4 := hX.2.2.2.2.1
    have hfb : fX p (rI p 25 3).toInt.toNat = fX p0 b := by rw [fX_nt hX.1, i_to x1]
    obtain ⟨t1, t2, t3, t4, t5⟩ := g0
    have g0 : hTp p0 := ⟨t1, t2, t3, t4, t5⟩
    have hTp1 := XO_tp g0 ga (by decide) hX
    refine hp_s1 (pc' := 13) (st' := [.int k]) rfl rfl rfl ?_
    refine hp_s (pc' := 15) (st' := [.int 120, .int k]) rfl rfl rfl ?_
    refine hp_ic (pc' := 18) (t := 72) (a := k.toInt) (b := 120) rfl rfl rfl rfl (by decide) (fun (h1 : 120 ≤ k.toInt) => ?_) (fun (h2 : ¬ (120 ≤ k.toInt)) => ?_)
    ·
      refine hp_s (pc' := 73) (st' := [.int 1]) rfl rfl rfl ?_
      refine hp_rb rfl rfl (fun _ => ?_)
      exact K0 e b p hX.1 (hr _ (yP_le (by first | (have q := fX_end (p := p0) (j := b) (by omega); unfold lop; omega) | (unfold lop; omega)))) hX hK
    ·
      refine hp_s (pc' := 19) (st' := [.ref 25]) rfl rfl rfl ?_
      refine hp_cv (r := 25) (o := 8) (kd := 1) (as := []) (rest := []) (pc' := 22) rfl rfl rfl rfl rfl rfl rfl rfl rfl (fun d1 => ?_)
      refine s_next (by first | assumption | omega) ?_
      intro y1 h3
      have hs : y1.toInt = fX p0 b := by rw [h3, hfb]
      refine hp_id (st := [.int y1]) ?_
      refine hp_s (pc' := 23) (ls' := [(3, .int y1), (2, .int k), (0, .ref 25), (1, .int o)]) (st' := []) rfl rfl rfl ?_
      refine hp_s (pc' := 24) (st' := [.int y1]) rfl rfl rfl ?_
      refine hp_s (pc' := 26) (st' := [.int 43, .int y1]) rfl rfl rfl ?_
      refine hp_ic (pc' := 29) (t := 37) (a := y1.toInt) (b := 43) rfl rfl rfl rfl (by decide) (fun (h4 : y1.toInt = 43) => ?_) (fun (h5 : ¬ (y1.toInt = 43)) => ?_)
      ·
        refine hp_s (pc' := 38) (st' := [.ref 25]) rfl rfl rfl ?_
        refine hp_s (pc' := 39) (st' := [.ref 25, .ref 25]) rfl rfl rfl ?_
        refine hp_get (k := 3) (pc' := 42) (v := (rI p 25 3)) rfl rfl rfl rfl rfl rfl ?_
        refine hp_s (pc' := 43) (st' := [.int 1, .int (rI p 25 3), .ref 25]) rfl rfl rfl ?_
        refine hp_z (pc' := 44) (e := (rI p 25 3) + 1) (st' := [.ref 25]) rfl rfl rfl ?_
        intro z1 hz1
        have ez1 := i_add hz1 (show (rI p 25 3).toInt = (rI p 25 3).toInt from rfl) (show (1 : Int32).toInt = 1 from by decide)
        refine hp_put (k := 3) (pc' := 47) rfl rfl rfl rfl rfl ?_
        intro p1 wp1 ep1
        have hop : lop 3 (fX p0 b) := by unfold lop; omega
        have hin := fX_in (p := p0) (j := b) (by unfold lop at hop; omega)
        have hX1 := XO_at (z := z1) hX wp (by omega) hin ep1
        have hT1 := XO_tp g0 ga (by decide) hX1
        have hf1 := fX_nt hX1.1
        have hq := i_to hX1.2.1
        refine hp_s (pc' := 48) (st' := [.ref 25]) rfl rfl rfl ?_
        refine hp_s (pc' := 49) (st' := [.int o, .ref 25]) rfl rfl rfl ?_
        refine hp_cv (r := 25) (o := 8) (kd := 1) (as := [.int o]) (rest := []) (pc' := 52) rfl rfl rfl rfl rfl rfl rfl rfl rfl (fun d2 => ?_)
        refine rX_rd4 rc (oi := o.toInt) rfl (by first | assumption | omega) (by first | assumption | omega) ?_ ?_
        ·
          intro y2 y3 p2 h6 h7 h8 h9
          refine hp_hw (fun wq => ?_)
          rw [hf1, hq] at h7
          rw [hq] at h8
          have hX2 := XO_tr g0.2.2.2.1 hX1 h8
          have f3 := hX2.2.2.1
          have f4 := hX2.2.2.2.1
          have f5 := hX2.2.2.2.2.1
          have f6 := h8.2.2.2.1
          refine hp_id (st := [.int 1]) ?_
          refine hp_go (pc' := 57) rfl rfl rfl ?_
          refine hp_s (pc' := 58) (st' := [.ref 25]) rfl rfl rfl ?_
          refine hp_getr (k := 0) (w := .ref 26) (pc' := 61) rfl rfl rfl rfl rfl ?_
          refine hp_s (pc' := 62) (st' := [.int y1, .ref 26]) rfl rfl rfl ?_
          refine hp_s (pc' := 63) (st' := [.int 0, .int y1, .ref 26]) rfl rfl rfl ?_
          refine hp_cv (r := 26) (o := 3) (kd := 1) (as := [.int y1, .int 0]) (rest := []) (pc' := 66) rfl rfl rfl rfl rfl rfl rfl rfl rfl (fun d3 => ?_)
          refine s_addD (xi := y1.toInt) rfl (yi := 0) (by decide) (by first | assumption | omega) ?_
          intro p3 ep3
          have hX3 := XO_ad (k := 0) (c := fX p0 b) g0 ga (by decide) (XO_k hX2 (by decide)) wq hs ep3
          refine hp_id (st := []) ?_
          refine hp_inc (L := fun z => [(2, .int z), (3, .int y1), (0, .ref 25), (1, .int o)]) (pc' := 69) rfl rfl rfl (fun _ => rfl) rfl ?_
          intro z2 hz2
          have ez2 := i_add hz2 (show k.toInt = k.toInt from rfl) (show (Int32.ofInt 1).toInt = 1 from by decide)
          refine hp_go (pc' := 12) rfl rfl rfl ?_
          exact ih z2 y1 _ _ _ rc (by omega) (by omega) (by omega) hX3 (lK_bin hop hK h9) (fun r h => hr r (yP_lm hop h7 h))
        ·
          intro y4 p4 h10 h11 h12
          rw [hf1, hq] at h11
          refine hp_id (st := [.int 0]) ?_
          refine hp_go (pc' := 55) rfl rfl rfl ?_
          refine hp_s (pc' := 56) (st' := [.int 0]) rfl rfl rfl ?_
          refine hp_rb rfl rfl (fun _ => ?_)
          exact K1 _ _ ((hX1.1).trans h10) (hr _ (yP_lx hop h11)) h12
      ·
        refine hp_s (pc' := 30) (st' := [.int y1]) rfl rfl rfl ?_
        refine hp_s (pc' := 32) (st' := [.int 45, .int y1]) rfl rfl rfl ?_
        refine hp_ic (pc' := 35) (t := 37) (a := y1.toInt) (b := 45) rfl rfl rfl rfl (by decide) (fun (h13 : y1.toInt = 45) => ?_) (fun (h14 : ¬ (y1.toInt = 45)) => ?_)
        ·
          refine hp_s (pc' := 38) (st' := [.ref 25]) rfl rfl rfl ?_
          refine hp_s (pc' := 39) (st' := [.ref 25, .ref 25]) rfl rfl rfl ?_
          refine hp_get (k := 3) (pc' := 42) (v := (rI p 25 3)) rfl rfl rfl rfl rfl rfl ?_
          refine hp_s (pc' := 43) (st' := [.int 1, .int (rI p 25 3), .ref 25]) rfl rfl rfl ?_
          refine hp_z (pc' := 44) (e := (rI p 25 3) + 1) (st' := [.ref 25]) rfl rfl rfl ?_
          intro z3 hz3
          have ez3 := i_add hz3 (show (rI p 25 3).toInt = (rI p 25 3).toInt from rfl) (show (1 : Int32).toInt = 1 from by decide)
          refine hp_put (k := 3) (pc' := 47) rfl rfl rfl rfl rfl ?_
          intro p5 wp5 ep5
          have hop : lop 3 (fX p0 b) := by unfold lop; omega
          have hin := fX_in (p := p0) (j := b) (by unfold lop at hop; omega)
          have hX1 := XO_at (z := z3) hX wp (by omega) hin ep5
          have hT1 := XO_tp g0 ga (by decide) hX1
          have hf1 := fX_nt hX1.1
          have hq := i_to hX1.2.1
          refine hp_s (pc' := 48) (st' := [.ref 25]) rfl rfl rfl ?_
          refine hp_s (pc' := 49) (st' := [.int o, .ref 25]) rfl rfl rfl ?_
          refine hp_cv (r := 25) (o := 8) (kd := 1) (as := [.int o]) (rest := []) (pc' := 52) rfl rfl rfl rfl rfl rfl rfl rfl rfl (fun d4 => ?_)
          refine rX_rd4 rc (oi := o.toInt) rfl (by first | assumption | omega) (by first | assumption | omega) ?_ ?_
          ·
            intro y5 y6 p6 h15 h16 h17 h18
            refine hp_hw (fun wq => ?_)
            rw [hf1, hq] at h16
            rw [hq] at h17
            have hX2 := XO_tr g0.2.2.2.1 hX1 h17
            have f3 := hX2.2.2.1
            have f4 := hX2.2.2.2.1
            have f5 := hX2.2.2.2.2.1
            have f6 := h17.2.2.2.1
            refine hp_id (st := [.int 1]) ?_
            refine hp_go (pc' := 57) rfl rfl rfl ?_
            refine hp_s (pc' := 58) (st' := [.ref 25]) rfl rfl rfl ?_
            refine hp_getr (k := 0) (w := .ref 26) (pc' := 61) rfl rfl rfl rfl rfl ?_
            refine hp_s (pc' := 62) (st' := [.int y1, .ref 26]) rfl rfl rfl ?_
            refine hp_s (pc' := 63) (st' := [.int 0, .int y1, .ref 26]) rfl rfl rfl ?_
            refine hp_cv (r := 26) (o := 3) (kd := 1) (as := [.int y1, .int 0]) (rest := []) (pc' := 66) rfl rfl rfl rfl rfl rfl rfl rfl rfl (fun d5 => ?_)
            refine s_addD (xi := y1.toInt) rfl (yi := 0) (by decide) (by first | assumption | omega) ?_
            intro p7 ep7
            have hX3 := XO_ad (k := 0) (c := fX p0 b) g0 ga (by decide) (XO_k hX2 (by decide)) wq hs ep7
            refine hp_id (st := []) ?_
            refine hp_inc (L := fun z => [(2, .int z), (3, .int y1), (0, .ref 25), (1, .int o)]) (pc' := 69) rfl rfl rfl (fun _ => rfl) rfl ?_
            intro z4 hz4
            have ez4 := i_add hz4 (show k.toInt = k.toInt from rfl) (show (Int32.ofInt 1).toInt = 1 from by decide)
            refine hp_go (pc' := 12) rfl rfl rfl ?_
            exact ih z4 y1 _ _ _ rc (by omega) (by omega) (by omega) hX3 (lK_bin hop hK h18) (fun r h => hr r (yP_lm hop h16 h))
          ·
            intro y7 p8 h19 h20 h21
            rw [hf1, hq] at h20
            refine hp_id (st := [.int 0]) ?_
            refine hp_go (pc' := 55) rfl rfl rfl ?_
            refine hp_s (pc' := 56) (st' := [.int 0]) rfl rfl rfl ?_
            refine hp_rb rfl rfl (fun _ => ?_)
            exact K1 _ _ ((hX1.1).trans h19) (hr _ (yP_lx hop h20)) h21
        ·
          refine hp_s (pc' := 36) (st' := [.int 1]) rfl rfl rfl ?_
          refine hp_rb rfl rfl (fun _ => ?_)
          exact K0 e b p hX.1 (hr _ (yP_le (by first | (have q := fX_end (p := p0) (j := b) (by omega); unfold lop; omega) | (unfold lop; omega)))) hX hK
theorem lp_100a {ro : List (List Int32)} {d : Nat} {Q : Option Value → xH → Prop} {o : Int32} {p0 : xH} {a : Nat} (g0 : hTp p0) (ga : (rI p0 25 3).toInt = a) (ho : 0 ≤ o.toInt) (K0 : ∀ (e : lE) (b : Nat) (p2 : xH), hNt T_rd p0 p2 → yP (fX p0) 3 none o.toInt.toNat a (some e, b) → XO 0 p0 p2 a e b → lK e → Q (some (.int 1)) p2) (K1 : ∀ (b : Nat) (p2 : xH), hNt T_rd p0 p2 → yP (fX p0) 3 none o.toInt.toNat a (none, b) → (rI p2 25 3).toInt = b → Q (some (.int 0)) p2) : ∀ (n : Nat) (k : Int32) (p : xH) (e : lE) (b : Nat), (RC_rd ro n) → (0 ≤ k.toInt) → (k.toInt ≤ 120) → (k.toInt + a ≤ b) → (XO 0 p0 p a e b) → (lK e) → (∀ r, yP (fX p0) 3 (some e) o.toInt.toNat b r → yP (fX p0) 3 none o.toInt.toNat a r) → hP ro n d (8, 4, 1, 2, k100) 12 [(2, .int k), (0, .ref 25), (1, .int o)] [] p Q := by
  intro n
  intro k p e b rc h1 h2 hb hX hK hr
  refine hp_hw (fun wp => ?_)
  have x1 := hX.2.1
  have x2 := hX.2.2.1
  have x3 := hX.2.2.2.1
  have x4 := hX.2.2.2.2.1
  have hfb : fX p (rI p 25 3).toInt.toNat = fX p0 b := by rw [fX_nt hX.1, i_to x1]
  obtain ⟨t1, t2, t3, t4, t5⟩ := g0
  have g0 : hTp p0 := ⟨t1, t2, t3, t4, t5⟩
  have hTp1 := XO_tp g0 ga (by decide) hX
  refine hp_s (pc' := 13) (st' := [.int k]) rfl rfl rfl ?_
  refine hp_s (pc' := 15) (st' := [.int 120, .int k]) rfl rfl rfl ?_
  refine hp_ic (pc' := 18) (t := 72) (a := k.toInt) (b := 120) rfl rfl rfl rfl (by decide) (fun (h1 : 120 ≤ k.toInt) => ?_) (fun (h2 : ¬ (120 ≤ k.toInt)) => ?_)
  ·
    refine hp_s (pc' := 73) (st' := [.int 1]) rfl rfl rfl ?_
    refine hp_rb rfl rfl (fun _ => ?_)
    exact K0 e b p hX.1 (hr _ (yP_le (by first | (have q := fX_end (p := p0) (j := b) (by omega); unfold lop; omega) | (unfold lop; omega)))) hX hK
  ·
    refine hp_s (pc' := 19) (st' := [.ref 25]) rfl rfl rfl ?_
    refine hp_cv (r := 25) (o := 8) (kd := 1) (as := []) (rest := []) (pc' := 22) rfl rfl rfl rfl rfl rfl rfl rfl rfl (fun d1 => ?_)
    refine s_next (by first | assumption | omega) ?_
    intro y1 h3
    have hs : y1.toInt = fX p0 b := by rw [h3, hfb]
    refine hp_id (st := [.int y1]) ?_
    refine hp_s (pc' := 23) (ls' := [(3, .int y1), (2, .int k), (0, .ref 25), (1, .int o)]) (st' := []) rfl rfl rfl ?_
    refine hp_s (pc' := 24) (st' := [.int y1]) rfl rfl rfl ?_
    refine hp_s (pc' := 26) (st' := [.int 43, .int y1]) rfl rfl rfl ?_
    refine hp_ic (pc' := 29) (t := 37) (a := y1.toInt) (b := 43) rfl rfl rfl rfl (by decide) (fun (h4 : y1.toInt = 43) => ?_) (fun (h5 : ¬ (y1.toInt = 43)) => ?_)
    ·
      refine hp_s (pc' := 38) (st' := [.ref 25]) rfl rfl rfl ?_
      refine hp_s (pc' := 39) (st' := [.ref 25, .ref 25]) rfl rfl rfl ?_
      refine hp_get (k := 3) (pc' := 42) (v := (rI p 25 3)) rfl rfl rfl rfl rfl rfl ?_
      refine hp_s (pc' := 43) (st' := [.int 1, .int (rI p 25 3), .ref 25]) rfl rfl rfl ?_
      refine hp_z (pc' := 44) (e := (rI p 25 3) + 1) (st' := [.ref 25]) rfl rfl rfl ?_
      intro z1 hz1
      have ez1 := i_add hz1 (show (rI p 25 3).toInt = (rI p 25 3).toInt from rfl) (show (1 : Int32).toInt = 1 from by decide)
      refine hp_put (k := 3) (pc' := 47) rfl rfl rfl rfl rfl ?_
      intro p1 wp1 ep1
      have hop : lop 3 (fX p0 b) := by unfold lop; omega
      have hin := fX_in (p := p0) (j := b) (by unfold lop at hop; omega)
      have hX1 := XO_at (z := z1) hX wp (by omega) hin ep1
      have hT1 := XO_tp g0 ga (by decide) hX1
      have hf1 := fX_nt hX1.1
      have hq := i_to hX1.2.1
      refine hp_s (pc' := 48) (st' := [.ref 25]) rfl rfl rfl ?_
      refine hp_s (pc' := 49) (st' := [.int o, .ref 25]) rfl rfl rfl ?_
      refine hp_cv (r := 25) (o := 8) (kd := 1) (as := [.int o]) (rest := []) (pc' := 52) rfl rfl rfl rfl rfl rfl rfl rfl rfl (fun d2 => ?_)
      refine rX_rd4 rc (oi := o.toInt) rfl (by first | assumption | omega) (by first | assumption | omega) ?_ ?_
      ·
        intro y2 y3 p2 h6 h7 h8 h9
        refine hp_hw (fun wq => ?_)
        rw [hf1, hq] at h7
        rw [hq] at h8
        have hX2 := XO_tr g0.2.2.2.1 hX1 h8
        have f3 := hX2.2.2.1
        have f4 := hX2.2.2.2.1
        have f5 := hX2.2.2.2.2.1
        have f6 := h8.2.2.2.1
        refine hp_id (st := [.int 1]) ?_
        refine hp_go (pc' := 57) rfl rfl rfl ?_
        refine hp_s (pc' := 58) (st' := [.ref 25]) rfl rfl rfl ?_
        refine hp_getr (k := 0) (w := .ref 26) (pc' := 61) rfl rfl rfl rfl rfl ?_
        refine hp_s (pc' := 62) (st' := [.int y1, .ref 26]) rfl rfl rfl ?_
        refine hp_s (pc' := 63) (st' := [.int 0, .int y1, .ref 26]) rfl rfl rfl ?_
        refine hp_cv (r := 26) (o := 3) (kd := 1) (as := [.int y1, .int 0]) (rest := []) (pc' := 66) rfl rfl rfl rfl rfl rfl rfl rfl rfl (fun d3 => ?_)
        refine s_addD (xi := y1.toInt) rfl (yi := 0) (by decide) (by first | assumption | omega) ?_
        intro p3 ep3
        have hX3 := XO_ad (k := 0) (c := fX p0 b) g0 ga (by decide) (XO_k hX2 (by decide)) wq hs ep3
        refine hp_id (st := []) ?_
        refine hp_inc (L := fun z => [(2, .int z), (3, .int y1), (0, .ref 25), (1, .int o)]) (pc' := 69) rfl rfl rfl (fun _ => rfl) rfl ?_
        intro z2 hz2
        have ez2 := i_add hz2 (show k.toInt = k.toInt from rfl) (show (Int32.ofInt 1).toInt = 1 from by decide)
        refine hp_go (pc' := 12) rfl rfl rfl ?_
        exact lp_100b (o := o) (a := a) g0 ga ho K0 K1 n z2 y1 _ _ _ rc (by omega) (by omega) (by omega) hX3 (lK_bin hop hK h9) (fun r h => hr r (yP_lm hop h7 h))
      ·
        intro y4 p4 h10 h11 h12
        rw [hf1, hq] at h11
        refine hp_id (st := [.int 0]) ?_
        refine hp_go (pc' := 55) rfl rfl rfl ?_
        refine hp_s (pc' := 56) (st' := [.int 0]) rfl rfl rfl ?_
        refine hp_rb rfl rfl (fun _ => ?_)
        exact K1 _ _ ((hX1.1).trans h10) (hr _ (yP_lx hop h11)) h12
    ·
      refine hp_s (pc' := 30) (st' := [.int y1]) rfl rfl rfl ?_
      refine hp_s (pc' := 32) (st' := [.int 45, .int y1]) rfl rfl rfl ?_
      refine hp_ic (pc' := 35) (t := 37) (a := y1.toInt) (b := 45) rfl rfl rfl rfl (by decide) (fun (h13 : y1.toInt = 45) => ?_) (fun (h14 : ¬ (y1.toInt = 45)) => ?_)
      ·
        refine hp_s (pc' := 38) (st' := [.ref 25]) rfl rfl rfl ?_
        refine hp_s (pc' := 39) (st' := [.ref 25, .ref 25]) rfl rfl rfl ?_
        refine hp_get (k := 3) (pc' := 42) (v := (rI p 25 3)) rfl rfl rfl rfl rfl rfl ?_
        refine hp_s (pc' := 43) (st' := [.int 1, .int (rI p 25 3), .ref 25]) rfl rfl rfl ?_
        refine hp_z (pc' := 44) (e := (rI p 25 3) + 1) (st' := [.ref 25]) rfl rfl rfl ?_
        intro z3 hz3
        have ez3 := i_add hz3 (show (rI p 25 3).toInt = (rI p 25 3).toInt from rfl) (show (1 : Int32).toInt = 1 from by decide)
        refine hp_put (k := 3) (pc' := 47) rfl rfl rfl rfl rfl ?_
        intro p5 wp5 ep5
        have hop : lop 3 (fX p0 b) := by unfold lop; omega
        have hin := fX_in (p := p0) (j := b) (by unfold lop at hop; omega)
        have hX1 := XO_at (z := z3) hX wp (by omega) hin ep5
        have hT1 := XO_tp g0 ga (by decide) hX1
        have hf1 := fX_nt hX1.1
        have hq := i_to hX1.2.1
        refine hp_s (pc' := 48) (st' := [.ref 25]) rfl rfl rfl ?_
        refine hp_s (pc' := 49) (st' := [.int o, .ref 25]) rfl rfl rfl ?_
        refine hp_cv (r := 25) (o := 8) (kd := 1) (as := [.int o]) (rest := []) (pc' := 52) rfl rfl rfl rfl rfl rfl rfl rfl rfl (fun d4 => ?_)
        refine rX_rd4 rc (oi := o.toInt) rfl (by first | assumption | omega) (by first | assumption | omega) ?_ ?_
        ·
          intro y5 y6 p6 h15 h16 h17 h18
          refine hp_hw (fun wq => ?_)
          rw [hf1, hq] at h16
          rw [hq] at h17
          have hX2 := XO_tr g0.2.2.2.1 hX1 h17
          have f3 := hX2.2.2.1
          have f4 := hX2.2.2.2.1
          have f5 := hX2.2.2.2.2.1
          have f6 := h17.2.2.2.1
          refine hp_id (st := [.int 1]) ?_
          refine hp_go (pc' := 57) rfl rfl rfl ?_
          refine hp_s (pc' := 58) (st' := [.ref 25]) rfl rfl rfl ?_
          refine hp_getr (k := 0) (w := .ref 26) (pc' := 61) rfl rfl rfl rfl rfl ?_
          refine hp_s (pc' := 62) (st' := [.int y1, .ref 26]) rfl rfl rfl ?_
          refine hp_s (pc' := 63) (st' := [.int 0, .int y1, .ref 26]) rfl rfl rfl ?_
          refine hp_cv (r := 26) (o := 3) (kd := 1) (as := [.int y1, .int 0]) (rest := []) (pc' := 66) rfl rfl rfl rfl rfl rfl rfl rfl rfl (fun d5 => ?_)
          refine s_addD (xi := y1.toInt) rfl (yi := 0) (by decide) (by first | assumption | omega) ?_
          intro p7 ep7
          have hX3 := XO_ad (k := 0) (c := fX p0 b) g0 ga (by decide) (XO_k hX2 (by decide)) wq hs ep7
          refine hp_id (st := []) ?_
          refine hp_inc (L := fun z => [(2, .int z), (3, .int y1), (0, .ref 25), (1, .int o)]) (pc' := 69) rfl rfl rfl (fun _ => rfl) rfl ?_
          intro z4 hz4
          have ez4 := i_add hz4 (show k.toInt = k.toInt from rfl) (show (Int32.ofInt 1).toInt = 1 from by decide)
          refine hp_go (pc' := 12) rfl rfl rfl ?_
          exact lp_100b (o := o) (a := a) g0 ga ho K0 K1 n z4 y1 _ _ _ rc (by omega) (by omega) (by omega) hX3 (lK_bin hop hK h18) (fun r h => hr r (yP_lm hop h16 h))
        ·
          intro y7 p8 h19 h20 h21
          rw [hf1, hq] at h20
          refine hp_id (st := [.int 0]) ?_
          refine hp_go (pc' := 55) rfl rfl rfl ?_
          refine hp_s (pc' := 56) (st' := [.int 0]) rfl rfl rfl ?_
          refine hp_rb rfl rfl (fun _ => ?_)
          exact K1 _ _ ((hX1.1).trans h19) (hr _ (yP_lx hop h20)) h21
      ·
        refine hp_s (pc' := 36) (st' := [.int 1]) rfl rfl rfl ?_
        refine hp_rb rfl rfl (fun _ => ?_)
        exact K0 e b p hX.1 (hr _ (yP_le (by first | (have q := fX_end (p := p0) (j := b) (by omega); unfold lop; omega) | (unfold lop; omega)))) hX hK
theorem tX_rd3 {ro : List (List Int32)} {n : Nat} (rc : RC_rd ro n) : hX_rd3 ro (n + 1) := by
  intro d p Q o oi ho pre0 pre1 k0 k1
  subst ho
  refine hp_id (ls := [(0, .ref 25), (1, .int o)]) ?_
  refine hp_s1 (pc' := 1) (st' := [.ref 25]) rfl rfl rfl ?_
  refine hp_s (pc' := 2) (st' := [.int o, .ref 25]) rfl rfl rfl ?_
  refine hp_cv (r := 25) (o := 8) (kd := 1) (as := [.int o]) (rest := []) (pc' := 5) rfl rfl rfl rfl rfl rfl rfl rfl rfl (fun d1 => ?_)
  refine rX_rd4 rc (oi := o.toInt) rfl (by first | assumption | omega) (by first | assumption | omega) ?_ ?_
  ·
    intro y1 y2 p1 h1 h2 h3 h4
    skip
    refine hp_id (st := [.int 1]) ?_
    refine hp_go (pc' := 10) rfl rfl rfl ?_
    refine hp_s (pc' := 11) (st' := [.int 0]) rfl rfl rfl ?_
    refine hp_s (pc' := 12) (ls' := [(2, .int 0), (0, .ref 25), (1, .int o)]) (st' := []) rfl rfl rfl ?_
    exact lp_100a (o := o) (p0 := p) (a := (rI p 25 3).toInt.toNat) pre0 (by have := pre0.1; omega) pre1 k0 k1 n 0 _ _ _ rc (by decide) (by decide) (by have q := h3.2.2.2.1; have h00 : (0 : Int32).toInt = 0 := (by decide); omega) h3 h4 (fun r h => yP_lo (by decide) (by decide) h2 h)
  ·
    intro y3 p2 h5 h6 h7
    skip
    refine hp_id (st := [.int 0]) ?_
    refine hp_go (pc' := 8) rfl rfl rfl ?_
    refine hp_s (pc' := 9) (st' := [.int 0]) rfl rfl rfl ?_
    refine hp_rb rfl rfl (fun _ => ?_)
    exact k1 _ _ h5 (yP_lb (by decide) h6) h7
theorem lp_101b {ro : List (List Int32)} {d : Nat} {Q : Option Value → xH → Prop} {o : Int32} {p0 : xH} {a : Nat} (g0 : hTp p0) (ga : (rI p0 25 3).toInt = a) (ho : 0 ≤ o.toInt) (K0 : ∀ (e : lE) (b : Nat) (p2 : xH), hNt T_rd p0 p2 → yP (fX p0) 4 none o.toInt.toNat a (some e, b) → XO 0 p0 p2 a e b → lK e → Q (some (.int 1)) p2) (K1 : ∀ (b : Nat) (p2 : xH), hNt T_rd p0 p2 → yP (fX p0) 4 none o.toInt.toNat a (none, b) → (rI p2 25 3).toInt = b → Q (some (.int 0)) p2) : ∀ (n : Nat) (k : Int32) (t : Int32) (p : xH) (e : lE) (b : Nat), (RC_rd ro n) → (0 ≤ k.toInt) → (k.toInt ≤ 120) → (k.toInt + a ≤ b) → (XO 0 p0 p a e b) → (lK e) → (∀ r, yP (fX p0) 4 (some e) o.toInt.toNat b r → yP (fX p0) 4 none o.toInt.toNat a r) → hP ro n d (8, 4, 1, 2, k101) 12 [(2, .int k), (3, .int t), (0, .ref 25), (1, .int o)] [] p Q := by
  intro n
  induction n with
  | zero => intros; exact hp_0
  | succ n ih =>
    intro k t p e b rc h1 h2 hb hX hK hr
    replace rc := RC_rd_more rc
    refine hp_hw (fun wp => ?_)
    have x1 := hX.2.1
    have x2 := hX.2.2.1
    have x3 := hX.2.2.2.1
    have x4 := hX.2.2.2.2.1
    have hfb : fX p (rI p 25 3).toInt.toNat = fX p0 b := by rw [fX_nt hX.1, i_to x1]
    obtain ⟨t1, t2, t3, t4, t5⟩ := g0
    have g0 : hTp p0 := ⟨t1, t2, t3, t4, t5⟩
    have hTp1 := XO_tp g0 ga (by decide) hX
    refine hp_s1 (pc' := 13) (st' := [.int k]) rfl rfl rfl ?_
    refine hp_s (pc' := 15) (st' := [.int 120, .int k]) rfl rfl rfl ?_
    refine hp_ic (pc' := 18) (t := 78) (a := k.toInt) (b := 120) rfl rfl rfl rfl (by decide) (fun (h1 : 120 ≤ k.toInt) => ?_) (fun (h2 : ¬ (120 ≤ k.toInt)) => ?_)
    ·
      refine hp_s (pc' := 79) (st' := [.int 1]) rfl rfl rfl ?_
      refine hp_rb rfl rfl (fun _ => ?_)
      exact K0 e b p hX.1 (hr _ (yP_le (by first | (have q := fX_end (p := p0) (j := b) (by omega); unfold lop; omega) | (unfold lop; omega)))) hX hK
    ·
      refine hp_s (pc' := 19) (st' := [.ref 25]) rfl rfl rfl ?_
      refine hp_cv (r := 25) (o := 8) (kd := 1) (as := []) (rest := []) (pc' := 22) rfl rfl rfl rfl rfl rfl rfl rfl rfl (fun d1 => ?_)
      refine s_next (by first | assumption | omega) ?_
      intro y1 h3
      have hs : y1.toInt = fX p0 b := by rw [h3, hfb]
      refine hp_id (st := [.int y1]) ?_
      refine hp_s (pc' := 23) (ls' := [(3, .int y1), (2, .int k), (0, .ref 25), (1, .int o)]) (st' := []) rfl rfl rfl ?_
      refine hp_s (pc' := 24) (st' := [.int y1]) rfl rfl rfl ?_
      refine hp_s (pc' := 26) (st' := [.int 42, .int y1]) rfl rfl rfl ?_
      refine hp_ic (pc' := 29) (t := 43) (a := y1.toInt) (b := 42) rfl rfl rfl rfl (by decide) (fun (h4 : y1.toInt = 42) => ?_) (fun (h5 : ¬ (y1.toInt = 42)) => ?_)
      ·
        refine hp_s (pc' := 44) (st' := [.ref 25]) rfl rfl rfl ?_
        refine hp_s (pc' := 45) (st' := [.ref 25, .ref 25]) rfl rfl rfl ?_
        refine hp_get (k := 3) (pc' := 48) (v := (rI p 25 3)) rfl rfl rfl rfl rfl rfl ?_
        refine hp_s (pc' := 49) (st' := [.int 1, .int (rI p 25 3), .ref 25]) rfl rfl rfl ?_
        refine hp_z (pc' := 50) (e := (rI p 25 3) + 1) (st' := [.ref 25]) rfl rfl rfl ?_
        intro z1 hz1
        have ez1 := i_add hz1 (show (rI p 25 3).toInt = (rI p 25 3).toInt from rfl) (show (1 : Int32).toInt = 1 from by decide)
        refine hp_put (k := 3) (pc' := 53) rfl rfl rfl rfl rfl ?_
        intro p1 wp1 ep1
        have hop : lop 4 (fX p0 b) := by unfold lop; omega
        have hin := fX_in (p := p0) (j := b) (by unfold lop at hop; omega)
        have hX1 := XO_at (z := z1) hX wp (by omega) hin ep1
        have hT1 := XO_tp g0 ga (by decide) hX1
        have hf1 := fX_nt hX1.1
        have hq := i_to hX1.2.1
        refine hp_s (pc' := 54) (st' := [.ref 25]) rfl rfl rfl ?_
        refine hp_s (pc' := 55) (st' := [.int o, .ref 25]) rfl rfl rfl ?_
        refine hp_cv (r := 25) (o := 8) (kd := 1) (as := [.int o]) (rest := []) (pc' := 58) rfl rfl rfl rfl rfl rfl rfl rfl rfl (fun d2 => ?_)
        refine rX_rd5 rc (oi := o.toInt) rfl (by first | assumption | omega) (by first | assumption | omega) ?_ ?_
        ·
          intro y2 y3 p2 h6 h7 h8 h9
          refine hp_hw (fun wq => ?_)
          rw [hf1, hq] at h7
          rw [hq] at h8
          have hX2 := XO_tr g0.2.2.2.1 hX1 h8
          have f3 := hX2.2.2.1
          have f4 := hX2.2.2.2.1
          have f5 := hX2.2.2.2.2.1
          have f6 := h8.2.2.2.1
          refine hp_id (st := [.int 1]) ?_
          refine hp_go (pc' := 63) rfl rfl rfl ?_
          refine hp_s (pc' := 64) (st' := [.ref 25]) rfl rfl rfl ?_
          refine hp_getr (k := 0) (w := .ref 26) (pc' := 67) rfl rfl rfl rfl rfl ?_
          refine hp_s (pc' := 68) (st' := [.int y1, .ref 26]) rfl rfl rfl ?_
          refine hp_s (pc' := 69) (st' := [.int 0, .int y1, .ref 26]) rfl rfl rfl ?_
          refine hp_cv (r := 26) (o := 3) (kd := 1) (as := [.int y1, .int 0]) (rest := []) (pc' := 72) rfl rfl rfl rfl rfl rfl rfl rfl rfl (fun d3 => ?_)
          refine s_addD (xi := y1.toInt) rfl (yi := 0) (by decide) (by first | assumption | omega) ?_
          intro p3 ep3
          have hX3 := XO_ad (k := 0) (c := fX p0 b) g0 ga (by decide) (XO_k hX2 (by decide)) wq hs ep3
          refine hp_id (st := []) ?_
          refine hp_inc (L := fun z => [(2, .int z), (3, .int y1), (0, .ref 25), (1, .int o)]) (pc' := 75) rfl rfl rfl (fun _ => rfl) rfl ?_
          intro z2 hz2
          have ez2 := i_add hz2 (show k.toInt = k.toInt from rfl) (show (Int32.ofInt 1).toInt = 1 from by decide)
          refine hp_go (pc' := 12) rfl rfl rfl ?_
          exact ih z2 y1 _ _ _ rc (by omega) (by omega) (by omega) hX3 (lK_bin hop hK h9) (fun r h => hr r (yP_lm hop h7 h))
        ·
          intro y4 p4 h10 h11 h12
          rw [hf1, hq] at h11
          refine hp_id (st := [.int 0]) ?_
          refine hp_go (pc' := 61) rfl rfl rfl ?_
          refine hp_s (pc' := 62) (st' := [.int 0]) rfl rfl rfl ?_
          refine hp_rb rfl rfl (fun _ => ?_)
          exact K1 _ _ ((hX1.1).trans h10) (hr _ (yP_lx hop h11)) h12
      ·
        refine hp_s (pc' := 30) (st' := [.int y1]) rfl rfl rfl ?_
        refine hp_s (pc' := 32) (st' := [.int 47, .int y1]) rfl rfl rfl ?_
        refine hp_ic (pc' := 35) (t := 43) (a := y1.toInt) (b := 47) rfl rfl rfl rfl (by decide) (fun (h13 : y1.toInt = 47) => ?_) (fun (h14 : ¬ (y1.toInt = 47)) => ?_)
        ·
          refine hp_s (pc' := 44) (st' := [.ref 25]) rfl rfl rfl ?_
          refine hp_s (pc' := 45) (st' := [.ref 25, .ref 25]) rfl rfl rfl ?_
          refine hp_get (k := 3) (pc' := 48) (v := (rI p 25 3)) rfl rfl rfl rfl rfl rfl ?_
          refine hp_s (pc' := 49) (st' := [.int 1, .int (rI p 25 3), .ref 25]) rfl rfl rfl ?_
          refine hp_z (pc' := 50) (e := (rI p 25 3) + 1) (st' := [.ref 25]) rfl rfl rfl ?_
          intro z3 hz3
          have ez3 := i_add hz3 (show (rI p 25 3).toInt = (rI p 25 3).toInt from rfl) (show (1 : Int32).toInt = 1 from by decide)
          refine hp_put (k := 3) (pc' := 53) rfl rfl rfl rfl rfl ?_
          intro p5 wp5 ep5
          have hop : lop 4 (fX p0 b) := by unfold lop; omega
          have hin := fX_in (p := p0) (j := b) (by unfold lop at hop; omega)
          have hX1 := XO_at (z := z3) hX wp (by omega) hin ep5
          have hT1 := XO_tp g0 ga (by decide) hX1
          have hf1 := fX_nt hX1.1
          have hq := i_to hX1.2.1
          refine hp_s (pc' := 54) (st' := [.ref 25]) rfl rfl rfl ?_
          refine hp_s (pc' := 55) (st' := [.int o, .ref 25]) rfl rfl rfl ?_
          refine hp_cv (r := 25) (o := 8) (kd := 1) (as := [.int o]) (rest := []) (pc' := 58) rfl rfl rfl rfl rfl rfl rfl rfl rfl (fun d4 => ?_)
          refine rX_rd5 rc (oi := o.toInt) rfl (by first | assumption | omega) (by first | assumption | omega) ?_ ?_
          ·
            intro y5 y6 p6 h15 h16 h17 h18
            refine hp_hw (fun wq => ?_)
            rw [hf1, hq] at h16
            rw [hq] at h17
            have hX2 := XO_tr g0.2.2.2.1 hX1 h17
            have f3 := hX2.2.2.1
            have f4 := hX2.2.2.2.1
            have f5 := hX2.2.2.2.2.1
            have f6 := h17.2.2.2.1
            refine hp_id (st := [.int 1]) ?_
            refine hp_go (pc' := 63) rfl rfl rfl ?_
            refine hp_s (pc' := 64) (st' := [.ref 25]) rfl rfl rfl ?_
            refine hp_getr (k := 0) (w := .ref 26) (pc' := 67) rfl rfl rfl rfl rfl ?_
            refine hp_s (pc' := 68) (st' := [.int y1, .ref 26]) rfl rfl rfl ?_
            refine hp_s (pc' := 69) (st' := [.int 0, .int y1, .ref 26]) rfl rfl rfl ?_
            refine hp_cv (r := 26) (o := 3) (kd := 1) (as := [.int y1, .int 0]) (rest := []) (pc' := 72) rfl rfl rfl rfl rfl rfl rfl rfl rfl (fun d5 => ?_)
            refine s_addD (xi := y1.toInt) rfl (yi := 0) (by decide) (by first | assumption | omega) ?_
            intro p7 ep7
            have hX3 := XO_ad (k := 0) (c := fX p0 b) g0 ga (by decide) (XO_k hX2 (by decide)) wq hs ep7
            refine hp_id (st := []) ?_
            refine hp_inc (L := fun z => [(2, .int z), (3, .int y1), (0, .ref 25), (1, .int o)]) (pc' := 75) rfl rfl rfl (fun _ => rfl) rfl ?_
            intro z4 hz4
            have ez4 := i_add hz4 (show k.toInt = k.toInt from rfl) (show (Int32.ofInt 1).toInt = 1 from by decide)
            refine hp_go (pc' := 12) rfl rfl rfl ?_
            exact ih z4 y1 _ _ _ rc (by omega) (by omega) (by omega) hX3 (lK_bin hop hK h18) (fun r h => hr r (yP_lm hop h16 h))
          ·
            intro y7 p8 h19 h20 h21
            rw [hf1, hq] at h20
            refine hp_id (st := [.int 0]) ?_
            refine hp_go (pc' := 61) rfl rfl rfl ?_
            refine hp_s (pc' := 62) (st' := [.int 0]) rfl rfl rfl ?_
            refine hp_rb rfl rfl (fun _ => ?_)
            exact K1 _ _ ((hX1.1).trans h19) (hr _ (yP_lx hop h20)) h21
        ·
          refine hp_s (pc' := 36) (st' := [.int y1]) rfl rfl rfl ?_
          refine hp_s (pc' := 38) (st' := [.int 37, .int y1]) rfl rfl rfl ?_
          refine hp_ic (pc' := 41) (t := 43) (a := y1.toInt) (b := 37) rfl rfl rfl rfl (by decide) (fun (h22 : y1.toInt = 37) => ?_) (fun (h23 : ¬ (y1.toInt = 37)) => ?_)
          ·
            refine hp_s (pc' := 44) (st' := [.ref 25]) rfl rfl rfl ?_
            refine hp_s (pc' := 45) (st' := [.ref 25, .ref 25]) rfl rfl rfl ?_
            refine hp_get (k := 3) (pc' := 48) (v := (rI p 25 3)) rfl rfl rfl rfl rfl rfl ?_
            refine hp_s (pc' := 49) (st' := [.int 1, .int (rI p 25 3), .ref 25]) rfl rfl rfl ?_
            refine hp_z (pc' := 50) (e := (rI p 25 3) + 1) (st' := [.ref 25]) rfl rfl rfl ?_
            intro z5 hz5
            have ez5 := i_add hz5 (show (rI p 25 3).toInt = (rI p 25 3).toInt from rfl) (show (1 : Int32).toInt = 1 from by decide)
            refine hp_put (k := 3) (pc' := 53) rfl rfl rfl rfl rfl ?_
            intro p9 wp9 ep9
            have hop : lop 4 (fX p0 b) := by unfold lop; omega
            have hin := fX_in (p := p0) (j := b) (by unfold lop at hop; omega)
            have hX1 := XO_at (z := z5) hX wp (by omega) hin ep9
            have hT1 := XO_tp g0 ga (by decide) hX1
            have hf1 := fX_nt hX1.1
            have hq := i_to hX1.2.1
            refine hp_s (pc' := 54) (st' := [.ref 25]) rfl rfl rfl ?_
            refine hp_s (pc' := 55) (st' := [.int o, .ref 25]) rfl rfl rfl ?_
            refine hp_cv (r := 25) (o := 8) (kd := 1) (as := [.int o]) (rest := []) (pc' := 58) rfl rfl rfl rfl rfl rfl rfl rfl rfl (fun d6 => ?_)
            refine rX_rd5 rc (oi := o.toInt) rfl (by first | assumption | omega) (by first | assumption | omega) ?_ ?_
            ·
              intro y8 y9 p10 h24 h25 h26 h27
              refine hp_hw (fun wq => ?_)
              rw [hf1, hq] at h25
              rw [hq] at h26
              have hX2 := XO_tr g0.2.2.2.1 hX1 h26
              have f3 := hX2.2.2.1
              have f4 := hX2.2.2.2.1
              have f5 := hX2.2.2.2.2.1
              have f6 := h26.2.2.2.1
              refine hp_id (st := [.int 1]) ?_
              refine hp_go (pc' := 63) rfl rfl rfl ?_
              refine hp_s (pc' := 64) (st' := [.ref 25]) rfl rfl rfl ?_
              refine hp_getr (k := 0) (w := .ref 26) (pc' := 67) rfl rfl rfl rfl rfl ?_
              refine hp_s (pc' := 68) (st' := [.int y1, .ref 26]) rfl rfl rfl ?_
              refine hp_s (pc' := 69) (st' := [.int 0, .int y1, .ref 26]) rfl rfl rfl ?_
              refine hp_cv (r := 26) (o := 3) (kd := 1) (as := [.int y1, .int 0]) (rest := []) (pc' := 72) rfl rfl rfl rfl rfl rfl rfl rfl rfl (fun d7 => ?_)
              refine s_addD (xi := y1.toInt) rfl (yi := 0) (by decide) (by first | assumption | omega) ?_
              intro p11 ep11
              have hX3 := XO_ad (k := 0) (c := fX p0 b) g0 ga (by decide) (XO_k hX2 (by decide)) wq hs ep11
              refine hp_id (st := []) ?_
              refine hp_inc (L := fun z => [(2, .int z), (3, .int y1), (0, .ref 25), (1, .int o)]) (pc' := 75) rfl rfl rfl (fun _ => rfl) rfl ?_
              intro z6 hz6
              have ez6 := i_add hz6 (show k.toInt = k.toInt from rfl) (show (Int32.ofInt 1).toInt = 1 from by decide)
              refine hp_go (pc' := 12) rfl rfl rfl ?_
              exact ih z6 y1 _ _ _ rc (by omega) (by omega) (by omega) hX3 (lK_bin hop hK h27) (fun r h => hr r (yP_lm hop h25 h))
            ·
              intro y10 p12 h28 h29 h30
              rw [hf1, hq] at h29
              refine hp_id (st := [.int 0]) ?_
              refine hp_go (pc' := 61) rfl rfl rfl ?_
              refine hp_s (pc' := 62) (st' := [.int 0]) rfl rfl rfl ?_
              refine hp_rb rfl rfl (fun _ => ?_)
              exact K1 _ _ ((hX1.1).trans h28) (hr _ (yP_lx hop h29)) h30
          ·
            refine hp_s (pc' := 42) (st' := [.int 1]) rfl rfl rfl ?_
            refine hp_rb rfl rfl (fun _ => ?_)
            exact K0 e b p hX.1 (hr _ (yP_le (by first | (have q := fX_end (p := p0) (j := b) (by omega); unfold lop; omega) | (unfold lop; omega)))) hX hK
theorem lp_101a {ro : List (List Int32)} {d : Nat} {Q : Option Value → xH → Prop} {o : Int32} {p0 : xH} {a : Nat} (g0 : hTp p0) (ga : (rI p0 25 3).toInt = a) (ho : 0 ≤ o.toInt) (K0 : ∀ (e : lE) (b : Nat) (p2 : xH), hNt T_rd p0 p2 → yP (fX p0) 4 none o.toInt.toNat a (some e, b) → XO 0 p0 p2 a e b → lK e → Q (some (.int 1)) p2) (K1 : ∀ (b : Nat) (p2 : xH), hNt T_rd p0 p2 → yP (fX p0) 4 none o.toInt.toNat a (none, b) → (rI p2 25 3).toInt = b → Q (some (.int 0)) p2) : ∀ (n : Nat) (k : Int32) (p : xH) (e : lE) (b : Nat), (RC_rd ro n) → (0 ≤ k.toInt) → (k.toInt ≤ 120) → (k.toInt + a ≤ b) → (XO 0 p0 p a e b) → (lK e) → (∀ r, yP (fX p0) 4 (some e) o.toInt.toNat b r → yP (fX p0) 4 none o.toInt.toNat a r) → hP ro n d (8, 4, 1, 2, k101) 12 [(2, .int k), (0, .ref 25), (1, .int o)] [] p Q := by
  intro n
  intro k p e b rc h1 h2 hb hX hK hr
  refine hp_hw (fun wp => ?_)
  have x1 := hX.2.1
  have x2 := hX.2.2.1
  have x3 := hX.2.2.2.1
  have x4 := hX.2.2.2.2.1
  have hfb : fX p (rI p 25 3).toInt.toNat = fX p0 b := by rw [fX_nt hX.1, i_to x1]
  obtain ⟨t1, t2, t3, t4, t5⟩ := g0
  have g0 : hTp p0 := ⟨t1, t2, t3, t4, t5⟩
  have hTp1 := XO_tp g0 ga (by decide) hX
  refine hp_s (pc' := 13) (st' := [.int k]) rfl rfl rfl ?_
  refine hp_s (pc' := 15) (st' := [.int 120, .int k]) rfl rfl rfl ?_
  refine hp_ic (pc' := 18) (t := 78) (a := k.toInt) (b := 120) rfl rfl rfl rfl (by decide) (fun (h1 : 120 ≤ k.toInt) => ?_) (fun (h2 : ¬ (120 ≤ k.toInt)) => ?_)
  ·
    refine hp_s (pc' := 79) (st' := [.int 1]) rfl rfl rfl ?_
    refine hp_rb rfl rfl (fun _ => ?_)
    exact K0 e b p hX.1 (hr _ (yP_le (by first | (have q := fX_end (p := p0) (j := b) (by omega); unfold lop; omega) | (unfold lop; omega)))) hX hK
  ·
    refine hp_s (pc' := 19) (st' := [.ref 25]) rfl rfl rfl ?_
    refine hp_cv (r := 25) (o := 8) (kd := 1) (as := []) (rest := []) (pc' := 22) rfl rfl rfl rfl rfl rfl rfl rfl rfl (fun d1 => ?_)
    refine s_next (by first | assumption | omega) ?_
    intro y1 h3
    have hs : y1.toInt = fX p0 b := by rw [h3, hfb]
    refine hp_id (st := [.int y1]) ?_
    refine hp_s (pc' := 23) (ls' := [(3, .int y1), (2, .int k), (0, .ref 25), (1, .int o)]) (st' := []) rfl rfl rfl ?_
    refine hp_s (pc' := 24) (st' := [.int y1]) rfl rfl rfl ?_
    refine hp_s (pc' := 26) (st' := [.int 42, .int y1]) rfl rfl rfl ?_
    refine hp_ic (pc' := 29) (t := 43) (a := y1.toInt) (b := 42) rfl rfl rfl rfl (by decide) (fun (h4 : y1.toInt = 42) => ?_) (fun (h5 : ¬ (y1.toInt = 42)) => ?_)
    ·
      refine hp_s (pc' := 44) (st' := [.ref 25]) rfl rfl rfl ?_
      refine hp_s (pc' := 45) (st' := [.ref 25, .ref 25]) rfl rfl rfl ?_
      refine hp_get (k := 3) (pc' := 48) (v := (rI p 25 3)) rfl rfl rfl rfl rfl rfl ?_
      refine hp_s (pc' := 49) (st' := [.int 1, .int (rI p 25 3), .ref 25]) rfl rfl rfl ?_
      refine hp_z (pc' := 50) (e := (rI p 25 3) + 1) (st' := [.ref 25]) rfl rfl rfl ?_
      intro z1 hz1
      have ez1 := i_add hz1 (show (rI p 25 3).toInt = (rI p 25 3).toInt from rfl) (show (1 : Int32).toInt = 1 from by decide)
      refine hp_put (k := 3) (pc' := 53) rfl rfl rfl rfl rfl ?_
      intro p1 wp1 ep1
      have hop : lop 4 (fX p0 b) := by unfold lop; omega
      have hin := fX_in (p := p0) (j := b) (by unfold lop at hop; omega)
      have hX1 := XO_at (z := z1) hX wp (by omega) hin ep1
      have hT1 := XO_tp g0 ga (by decide) hX1
      have hf1 := fX_nt hX1.1
      have hq := i_to hX1.2.1
      refine hp_s (pc' := 54) (st' := [.ref 25]) rfl rfl rfl ?_
      refine hp_s (pc' := 55) (st' := [.int o, .ref 25]) rfl rfl rfl ?_
      refine hp_cv (r := 25) (o := 8) (kd := 1) (as := [.int o]) (rest := []) (pc' := 58) rfl rfl rfl rfl rfl rfl rfl rfl rfl (fun d2 => ?_)
      refine rX_rd5 rc (oi := o.toInt) rfl (by first | assumption | omega) (by first | assumption | omega) ?_ ?_
      ·
        intro y2 y3 p2 h6 h7 h8 h9
        refine hp_hw (fun wq => ?_)
        rw [hf1, hq] at h7
        rw [hq] at h8
        have hX2 := XO_tr g0.2.2.2.1 hX1 h8
        have f3 := hX2.2.2.1
        have f4 := hX2.2.2.2.1
        have f5 := hX2.2.2.2.2.1
        have f6 := h8.2.2.2.1
        refine hp_id (st := [.int 1]) ?_
        refine hp_go (pc' := 63) rfl rfl rfl ?_
        refine hp_s (pc' := 64) (st' := [.ref 25]) rfl rfl rfl ?_
        refine hp_getr (k := 0) (w := .ref 26) (pc' := 67) rfl rfl rfl rfl rfl ?_
        refine hp_s (pc' := 68) (st' := [.int y1, .ref 26]) rfl rfl rfl ?_
        refine hp_s (pc' := 69) (st' := [.int 0, .int y1, .ref 26]) rfl rfl rfl ?_
        refine hp_cv (r := 26) (o := 3) (kd := 1) (as := [.int y1, .int 0]) (rest := []) (pc' := 72) rfl rfl rfl rfl rfl rfl rfl rfl rfl (fun d3 => ?_)
        refine s_addD (xi := y1.toInt) rfl (yi := 0) (by decide) (by first | assumption | omega) ?_
        intro p3 ep3
        have hX3 := XO_ad (k := 0) (c := fX p0 b) g0 ga (by decide) (XO_k hX2 (by decide)) wq hs ep3
        refine hp_id (st := []) ?_
        refine hp_inc (L := fun z => [(2, .int z), (3, .int y1), (0, .ref 25), (1, .int o)]) (pc' := 75) rfl rfl rfl (fun _ => rfl) rfl ?_
        intro z2 hz2
        have ez2 := i_add hz2 (show k.toInt = k.toInt from rfl) (show (Int32.ofInt 1).toInt = 1 from by decide)
        refine hp_go (pc' := 12) rfl rfl rfl ?_
        exact lp_101b (o := o) (a := a) g0 ga ho K0 K1 n z2 y1 _ _ _ rc (by omega) (by omega) (by omega) hX3 (lK_bin hop hK h9) (fun r h => hr r (yP_lm hop h7 h))
      ·
        intro y4 p4 h10 h11 h12
        rw [hf1, hq] at h11
        refine hp_id (st := [.int 0]) ?_
        refine hp_go (pc' := 61) rfl rfl rfl ?_
        refine hp_s (pc' := 62) (st' := [.int 0]) rfl rfl rfl ?_
        refine hp_rb rfl rfl (fun _ => ?_)
        exact K1 _ _ ((hX1.1).trans h10) (hr _ (yP_lx hop h11)) h12
    ·
      refine hp_s (pc' := 30) (st' := [.int y1]) rfl rfl rfl ?_
      refine hp_s (pc' := 32) (st' := [.int 47, .int y1]) rfl rfl rfl ?_
      refine hp_ic (pc' := 35) (t := 43) (a := y1.toInt) (b := 47) rfl rfl rfl rfl (by decide) (fun (h13 : y1.toInt = 47) => ?_) (fun (h14 : ¬ (y1.toInt = 47)) => ?_)
      ·
        refine hp_s (pc' := 44) (st' := [.ref 25]) rfl rfl rfl ?_
        refine hp_s (pc' := 45) (st' := [.ref 25, .ref 25]) rfl rfl rfl ?_
        refine hp_get (k := 3) (pc' := 48) (v := (rI p 25 3)) rfl rfl rfl rfl rfl rfl ?_
        refine hp_s (pc' := 49) (st' := [.int 1, .int (rI p 25 3), .ref 25]) rfl rfl rfl ?_
        refine hp_z (pc' := 50) (e := (rI p 25 3) + 1) (st' := [.ref 25]) rfl rfl rfl ?_
        intro z3 hz3
        have ez3 := i_add hz3 (show (rI p 25 3).toInt = (rI p 25 3).toInt from rfl) (show (1 : Int32).toInt = 1 from by decide)
        refine hp_put (k := 3) (pc' := 53) rfl rfl rfl rfl rfl ?_
        intro p5 wp5 ep5
        have hop : lop 4 (fX p0 b) := by unfold lop; omega
        have hin := fX_in (p := p0) (j := b) (by unfold lop at hop; omega)
        have hX1 := XO_at (z := z3) hX wp (by omega) hin ep5
        have hT1 := XO_tp g0 ga (by decide) hX1
        have hf1 := fX_nt hX1.1
        have hq := i_to hX1.2.1
        refine hp_s (pc' := 54) (st' := [.ref 25]) rfl rfl rfl ?_
        refine hp_s (pc' := 55) (st' := [.int o, .ref 25]) rfl rfl rfl ?_
        refine hp_cv (r := 25) (o := 8) (kd := 1) (as := [.int o]) (rest := []) (pc' := 58) rfl rfl rfl rfl rfl rfl rfl rfl rfl (fun d4 => ?_)
        refine rX_rd5 rc (oi := o.toInt) rfl (by first | assumption | omega) (by first | assumption | omega) ?_ ?_
        ·
          intro y5 y6 p6 h15 h16 h17 h18
          refine hp_hw (fun wq => ?_)
          rw [hf1, hq] at h16
          rw [hq] at h17
          have hX2 := XO_tr g0.2.2.2.1 hX1 h17
          have f3 := hX2.2.2.1
          have f4 := hX2.2.2.2.1
          have f5 := hX2.2.2.2.2.1
          have f6 := h17.2.2.2.1
          refine hp_id (st := [.int 1]) ?_
          refine hp_go (pc' := 63) rfl rfl rfl ?_
          refine hp_s (pc' := 64) (st' := [.ref 25]) rfl rfl rfl ?_
          refine hp_getr (k := 0) (w := .ref 26) (pc' := 67) rfl rfl rfl rfl rfl ?_
          refine hp_s (pc' := 68) (st' := [.int y1, .ref 26]) rfl rfl rfl ?_
          refine hp_s (pc' := 69) (st' := [.int 0, .int y1, .ref 26]) rfl rfl rfl ?_
          refine hp_cv (r := 26) (o := 3) (kd := 1) (as := [.int y1, .int 0]) (rest := []) (pc' := 72) rfl rfl rfl rfl rfl rfl rfl rfl rfl (fun d5 => ?_)
          refine s_addD (xi := y1.toInt) rfl (yi := 0) (by decide) (by first | assumption | omega) ?_
          intro p7 ep7
          have hX3 := XO_ad (k := 0) (c := fX p0 b) g0 ga (by decide) (XO_k hX2 (by decide)) wq hs ep7
          refine hp_id (st := []) ?_
          refine hp_inc (L := fun z => [(2, .int z), (3, .int y1), (0, .ref 25), (1, .int o)]) (pc' := 75) rfl rfl rfl (fun _ => rfl) rfl ?_
          intro z4 hz4
          have ez4 := i_add hz4 (show k.toInt = k.toInt from rfl) (show (Int32.ofInt 1).toInt = 1 from by decide)
          refine hp_go (pc' := 12) rfl rfl rfl ?_
          exact lp_101b (o := o) (a := a) g0 ga ho K0 K1 n z4 y1 _ _ _ rc (by omega) (by omega) (by omega) hX3 (lK_bin hop hK h18) (fun r h => hr r (yP_lm hop h16 h))
        ·
          intro y7 p8 h19 h20 h21
          rw [hf1, hq] at h20
          refine hp_id (st := [.int 0]) ?_
          refine hp_go (pc' := 61) rfl rfl rfl ?_
          refine hp_s (pc' := 62) (st' := [.int 0]) rfl rfl rfl ?_
          refine hp_rb rfl rfl (fun _ => ?_)
          exact K1 _ _ ((hX1.1).trans h19) (hr _ (yP_lx hop h20)) h21
      ·
        refine hp_s (pc' := 36) (st' := [.int y1]) rfl rfl rfl ?_
        refine hp_s (pc' := 38) (st' := [.int 37, .int y1]) rfl rfl rfl ?_
        refine hp_ic (pc' := 41) (t := 43) (a := y1.toInt) (b := 37) rfl rfl rfl rfl (by decide) (fun (h22 : y1.toInt = 37) => ?_) (fun (h23 : ¬ (y1.toInt = 37)) => ?_)
        ·
          refine hp_s (pc' := 44) (st' := [.ref 25]) rfl rfl rfl ?_
          refine hp_s (pc' := 45) (st' := [.ref 25, .ref 25]) rfl rfl rfl ?_
          refine hp_get (k := 3) (pc' := 48) (v := (rI p 25 3)) rfl rfl rfl rfl rfl rfl ?_
          refine hp_s (pc' := 49) (st' := [.int 1, .int (rI p 25 3), .ref 25]) rfl rfl rfl ?_
          refine hp_z (pc' := 50) (e := (rI p 25 3) + 1) (st' := [.ref 25]) rfl rfl rfl ?_
          intro z5 hz5
          have ez5 := i_add hz5 (show (rI p 25 3).toInt = (rI p 25 3).toInt from rfl) (show (1 : Int32).toInt = 1 from by decide)
          refine hp_put (k := 3) (pc' := 53) rfl rfl rfl rfl rfl ?_
          intro p9 wp9 ep9
          have hop : lop 4 (fX p0 b) := by unfold lop; omega
          have hin := fX_in (p := p0) (j := b) (by unfold lop at hop; omega)
          have hX1 := XO_at (z := z5) hX wp (by omega) hin ep9
          have hT1 := XO_tp g0 ga (by decide) hX1
          have hf1 := fX_nt hX1.1
          have hq := i_to hX1.2.1
          refine hp_s (pc' := 54) (st' := [.ref 25]) rfl rfl rfl ?_
          refine hp_s (pc' := 55) (st' := [.int o, .ref 25]) rfl rfl rfl ?_
          refine hp_cv (r := 25) (o := 8) (kd := 1) (as := [.int o]) (rest := []) (pc' := 58) rfl rfl rfl rfl rfl rfl rfl rfl rfl (fun d6 => ?_)
          refine rX_rd5 rc (oi := o.toInt) rfl (by first | assumption | omega) (by first | assumption | omega) ?_ ?_
          ·
            intro y8 y9 p10 h24 h25 h26 h27
            refine hp_hw (fun wq => ?_)
            rw [hf1, hq] at h25
            rw [hq] at h26
            have hX2 := XO_tr g0.2.2.2.1 hX1 h26
            have f3 := hX2.2.2.1
            have f4 := hX2.2.2.2.1
            have f5 := hX2.2.2.2.2.1
            have f6 := h26.2.2.2.1
            refine hp_id (st := [.int 1]) ?_
            refine hp_go (pc' := 63) rfl rfl rfl ?_
            refine hp_s (pc' := 64) (st' := [.ref 25]) rfl rfl rfl ?_
            refine hp_getr (k := 0) (w := .ref 26) (pc' := 67) rfl rfl rfl rfl rfl ?_
            refine hp_s (pc' := 68) (st' := [.int y1, .ref 26]) rfl rfl rfl ?_
            refine hp_s (pc' := 69) (st' := [.int 0, .int y1, .ref 26]) rfl rfl rfl ?_
            refine hp_cv (r := 26) (o := 3) (kd := 1) (as := [.int y1, .int 0]) (rest := []) (pc' := 72) rfl rfl rfl rfl rfl rfl rfl rfl rfl (fun d7 => ?_)
            refine s_addD (xi := y1.toInt) rfl (yi := 0) (by decide) (by first | assumption | omega) ?_
            intro p11 ep11
            have hX3 := XO_ad (k := 0) (c := fX p0 b) g0 ga (by decide) (XO_k hX2 (by decide)) wq hs ep11
            refine hp_id (st := []) ?_
            refine hp_inc (L := fun z => [(2, .int z), (3, .int y1), (0, .ref 25), (1, .int o)]) (pc' := 75) rfl rfl rfl (fun _ => rfl) rfl ?_
            intro z6 hz6
            have ez6 := i_add hz6 (show k.toInt = k.toInt from rfl) (show (Int32.ofInt 1).toInt = 1 from by decide)
            refine hp_go (pc' := 12) rfl rfl rfl ?_
            exact lp_101b (o := o) (a := a) g0 ga ho K0 K1 n z6 y1 _ _ _ rc (by omega) (by omega) (by omega) hX3 (lK_bin hop hK h27) (fun r h => hr r (yP_lm hop h25 h))
          ·
            intro y10 p12 h28 h29 h30
            rw [hf1, hq] at h29
            refine hp_id (st := [.int 0]) ?_
            refine hp_go (pc' := 61) rfl rfl rfl ?_
            refine hp_s (pc' := 62) (st' := [.int 0]) rfl rfl rfl ?_
            refine hp_rb rfl rfl (fun _ => ?_)
            exact K1 _ _ ((hX1.1).trans h28) (hr _ (yP_lx hop h29)) h30
        ·
          refine hp_s (pc' := 42) (st' := [.int 1]) rfl rfl rfl ?_
          refine hp_rb rfl rfl (fun _ => ?_)
          exact K0 e b p hX.1 (hr _ (yP_le (by first | (have q := fX_end (p := p0) (j := b) (by omega); unfold lop; omega) | (unfold lop; omega)))) hX hK
theorem tX_rd4 {ro : List (List Int32)} {n : Nat} (rc : RC_rd ro n) : hX_rd4 ro (n + 1) := by
  intro d p Q o oi ho pre0 pre1 k0 k1
  subst ho
  refine hp_id (ls := [(0, .ref 25), (1, .int o)]) ?_
  refine hp_s1 (pc' := 1) (st' := [.ref 25]) rfl rfl rfl ?_
  refine hp_s (pc' := 2) (st' := [.int o, .ref 25]) rfl rfl rfl ?_
  refine hp_cv (r := 25) (o := 8) (kd := 1) (as := [.int o]) (rest := []) (pc' := 5) rfl rfl rfl rfl rfl rfl rfl rfl rfl (fun d1 => ?_)
  refine rX_rd5 rc (oi := o.toInt) rfl (by first | assumption | omega) (by first | assumption | omega) ?_ ?_
  ·
    intro y1 y2 p1 h1 h2 h3 h4
    skip
    refine hp_id (st := [.int 1]) ?_
    refine hp_go (pc' := 10) rfl rfl rfl ?_
    refine hp_s (pc' := 11) (st' := [.int 0]) rfl rfl rfl ?_
    refine hp_s (pc' := 12) (ls' := [(2, .int 0), (0, .ref 25), (1, .int o)]) (st' := []) rfl rfl rfl ?_
    exact lp_101a (o := o) (p0 := p) (a := (rI p 25 3).toInt.toNat) pre0 (by have := pre0.1; omega) pre1 k0 k1 n 0 _ _ _ rc (by decide) (by decide) (by have q := h3.2.2.2.1; have h00 : (0 : Int32).toInt = 0 := (by decide); omega) h3 h4 (fun r h => yP_lo (by decide) (by decide) h2 h)
  ·
    intro y3 p2 h5 h6 h7
    skip
    refine hp_id (st := [.int 0]) ?_
    refine hp_go (pc' := 8) rfl rfl rfl ?_
    refine hp_s (pc' := 9) (st' := [.int 0]) rfl rfl rfl ?_
    refine hp_rb rfl rfl (fun _ => ?_)
    exact k1 _ _ h5 (yP_lb (by decide) h6) h7
theorem tX_rd5 {ro : List (List Int32)} {n : Nat} (rc : RC_rd ro n) : hX_rd5 ro (n + 1) := by
  intro d p Q o oi ho pre0 pre1 k0 k1
  subst ho
  refine hp_id (ls := [(0, .ref 25), (1, .int o)]) ?_
  obtain ⟨t1, t2, t3, t4, t5⟩ := pre0
  have pre0 : hTp p := ⟨t1, t2, t3, t4, t5⟩
  have ga : (rI p 25 3).toInt = ((rI p 25 3).toInt.toNat : Nat) := by omega
  refine hp_hw (fun wp => ?_)
  refine hp_s1 (pc' := 1) (st' := [.ref 25]) rfl rfl rfl ?_
  refine hp_cv (r := 25) (o := 8) (kd := 1) (as := []) (rest := []) (pc' := 4) rfl rfl rfl rfl rfl rfl rfl rfl rfl (fun d1 => ?_)
  refine s_next (by first | assumption | omega) ?_
  intro y1 h1
  have hs : y1.toInt = fX p (rI p 25 3).toInt.toNat := h1
  refine hp_id (st := [.int y1]) ?_
  refine hp_s (pc' := 5) (ls' := [(2, .int y1), (0, .ref 25), (1, .int o)]) (st' := []) rfl rfl rfl ?_
  refine hp_s (pc' := 6) (st' := [.int y1]) rfl rfl rfl ?_
  refine hp_cs (kd := 0) (as := [.int y1]) (rest := []) (pc' := 9) rfl rfl rfl rfl rfl rfl rfl (fun d2 => ?_)
  refine s_isDigit (ci := y1.toInt) rfl ?_ ?_
  ·
    intro h2
    have hdg : ldg (fX p (rI p 25 3).toInt.toNat) := by rw [← hs]; exact h2
    refine hp_id (st := [.int 1]) ?_
    refine hp_go (pc' := 12) rfl rfl rfl ?_
    refine hp_s (pc' := 13) (st' := [.ref 25]) rfl rfl rfl ?_
    refine hp_cv (r := 25) (o := 8) (kd := 1) (as := []) (rest := []) (pc' := 16) rfl rfl rfl rfl rfl rfl rfl rfl rfl (fun d3 => ?_)
    refine s_readNumber (by first | assumption | omega) (by first | assumption | omega) ?_
    intro y2 y3 p1 h3 h4 h5 h6 h7 h8 h9
    refine hp_id (st := [.int 1]) ?_
    refine hp_rb rfl rfl (fun _ => ?_)
    exact k0 _ _ _ h3 (yP_num h4 h5 h6 h7 h8) h9 lK_num
  ·
    intro h10
    have hnd : ¬ ldg (fX p (rI p 25 3).toInt.toNat) := by rw [← hs]; exact h10
    refine hp_id (st := [.int 0]) ?_
    refine hp_go (pc' := 17) rfl rfl rfl ?_
    refine hp_s (pc' := 18) (st' := [.int y1]) rfl rfl rfl ?_
    refine hp_cs (kd := 0) (as := [.int y1]) (rest := []) (pc' := 21) rfl rfl rfl rfl rfl rfl rfl (fun d4 => ?_)
    refine s_nameOf (ci := y1.toInt) rfl ?_
    intro y4 h11
    have hn : y4.toInt = lnm (fX p (rI p 25 3).toInt.toNat) := by rw [h11, hs]
    refine hp_id (st := [.int y4]) ?_
    refine hp_s (pc' := 22) (ls' := [(3, .int y4), (2, .int y1), (0, .ref 25), (1, .int o)]) (st' := []) rfl rfl rfl ?_
    refine hp_s (pc' := 23) (st' := [.int y4]) rfl rfl rfl ?_
    refine hp_if (pc' := 26) (t := 48) (a := y4.toInt) rfl rfl rfl rfl (fun (h12 : y4.toInt < 0) => ?_) (fun (h13 : ¬ (y4.toInt < 0)) => ?_)
    ·
      refine hp_s (pc' := 49) (st' := [.int y1]) rfl rfl rfl ?_
      refine hp_s (pc' := 51) (st' := [.int 40, .int y1]) rfl rfl rfl ?_
      refine hp_ic (pc' := 54) (t := 68) (a := y1.toInt) (b := 40) rfl rfl rfl rfl (by decide) (fun (h14 : y1.toInt = 40) => ?_) (fun (h15 : ¬ (y1.toInt = 40)) => ?_)
      ·
        refine hp_s (pc' := 69) (st' := [.int o]) rfl rfl rfl ?_
        refine hp_s (pc' := 71) (st' := [.int 6, .int o]) rfl rfl rfl ?_
        refine hp_ic (pc' := 74) (t := 76) (a := o.toInt) (b := 6) rfl rfl rfl rfl (by decide) (fun (h16 : o.toInt < 6) => ?_) (fun (h17 : ¬ (o.toInt < 6)) => ?_)
        ·
          refine hp_s (pc' := 77) (st' := [.ref 25]) rfl rfl rfl ?_
          refine hp_s (pc' := 78) (st' := [.ref 25, .ref 25]) rfl rfl rfl ?_
          refine hp_get (k := 3) (pc' := 81) (v := (rI p 25 3)) rfl rfl rfl rfl rfl rfl ?_
          refine hp_s (pc' := 82) (st' := [.int 1, .int (rI p 25 3), .ref 25]) rfl rfl rfl ?_
          refine hp_z (pc' := 83) (e := (rI p 25 3) + 1) (st' := [.ref 25]) rfl rfl rfl ?_
          intro z1 hz1
          have ez1 := i_add hz1 (show (rI p 25 3).toInt = (rI p 25 3).toInt from rfl) (show (1 : Int32).toInt = 1 from by decide)
          refine hp_put (k := 3) (pc' := 86) rfl rfl rfl rfl rfl ?_
          intro p2 wp2 ep2
          have hin := fX_in (p := p) (j := (rI p 25 3).toInt.toNat) (fun hc => by first | omega | (have q5 := lnm_no hc; omega))
          have hX1 := XO_at (z := z1) (XO_0 pre0 ga) wp (by omega) hin ep2
          have hT1 := XO_tp pre0 ga (by decide) hX1
          have hf1 := fX_nt hX1.1
          have hq := i_to hX1.2.1
          have f3 := hX1.2.2.1
          rw [List.length_nil] at f3
          refine hp_hw (fun wq => ?_)
          refine hp_s (pc' := 87) (st' := [.ref 25]) rfl rfl rfl ?_
          refine hp_s (pc' := 88) (st' := [.int y1, .ref 25]) rfl rfl rfl ?_
          refine hp_s (pc' := 89) (st' := [.int o, .int y1, .ref 25]) rfl rfl rfl ?_
          refine hp_s (pc' := 90) (st' := [.int 1, .int o, .int y1, .ref 25]) rfl rfl rfl ?_
          refine hp_z (pc' := 91) (e := o + 1) (st' := [.int y1, .ref 25]) rfl rfl rfl ?_
          intro z2 hz2
          have ez2 := i_add hz2 (show o.toInt = o.toInt from rfl) (show (1 : Int32).toInt = 1 from by decide)
          have hoz : z2.toInt.toNat = o.toInt.toNat + 1 := by omega
          refine hp_cv (r := 25) (o := 8) (kd := 1) (as := [.int y1, .int z2]) (rest := []) (pc' := 94) rfl rfl rfl rfl rfl rfl rfl rfl rfl (fun d5 => ?_)
          refine rX_rdO rc (ci := y1.toInt) rfl (oi := z2.toInt) rfl (by first | assumption | omega) (by first | assumption | omega) (by first | assumption | omega) ?_ ?_ ?_ ?_ ?_
          ·
            intro y5 y6 p3 h18 h19 h20 h21 h22 h23
            rw [hf1, hq, hoz] at h20
            rw [hf1] at h21
            rw [hq] at h22
            refine hp_id (st := [.int 1]) ?_
            refine hp_rb rfl rfl (fun _ => ?_)
            exact k0 _ _ _ (hX1.1.trans h18) (yP_po (by omega) (by omega) h20 h21) (XO_k (XO_tr pre0.2.2.2.1 hX1 h22) (by decide)) h23
          ·
            intro y7 y8 p4 p5 h24 h25 h26 h27 h28 h29 h30
            rw [hf1, hq, hoz] at h26
            rw [hq] at h27
            refine hp_id (st := [.int 1]) ?_
            refine hp_rb rfl rfl (fun _ => ?_)
            obtain ⟨y, hy1, hy2⟩ := h29
            rw [hs] at hy1
            have hX3 := XO_ad (k := 0) pre0 ga (by decide) (XO_k (XO_tr pre0.2.2.2.1 hX1 h27) (by decide)) h28 hy1 hy2
            exact k0 _ _ _ hX3.1 (yP_uo (by omega) (by omega) h26) hX3 (lK_un (by omega) h30)
          ·
            intro y9 p6 h31 h32 h33 h34
            rw [hf1, hq, hoz] at h33
            refine hp_id (st := [.int 0]) ?_
            refine hp_rb rfl rfl (fun _ => ?_)
            exact k1 _ _ (hX1.1.trans h31) (yP_pb (by omega) (by omega) h33) h34
          ·
            intro y10 y11 p7 h35 h36 h37 h38 h39
            rw [hf1, hq, hoz] at h37
            rw [hf1] at h38
            refine hp_id (st := [.int 0]) ?_
            refine hp_rb rfl rfl (fun _ => ?_)
            exact k1 _ _ (hX1.1.trans h35) (yP_pn (by omega) (by omega) h37 h38) h39
          ·
            intro y12 p8 h40 h41 h42 h43
            rw [hf1, hq, hoz] at h42
            refine hp_id (st := [.int 0]) ?_
            refine hp_rb rfl rfl (fun _ => ?_)
            exact k1 _ _ (hX1.1.trans h40) (yP_ub (by omega) (by omega) h42) h43
        ·
          refine hp_s (pc' := 75) (st' := [.int 0]) rfl rfl rfl ?_
          refine hp_rb rfl rfl (fun _ => ?_)
          first | exact k1 _ _ (hNt.refl _ _) (yP_full (by omega) (by omega)) ga | exact k1 _ _ (hNt.refl _ _) (yP_oth (by omega) (by omega) (by omega)) ga
      ·
        refine hp_s (pc' := 55) (st' := [.int y1]) rfl rfl rfl ?_
        refine hp_s (pc' := 57) (st' := [.int 33, .int y1]) rfl rfl rfl ?_
        refine hp_ic (pc' := 60) (t := 68) (a := y1.toInt) (b := 33) rfl rfl rfl rfl (by decide) (fun (h44 : y1.toInt = 33) => ?_) (fun (h45 : ¬ (y1.toInt = 33)) => ?_)
        ·
          refine hp_s (pc' := 69) (st' := [.int o]) rfl rfl rfl ?_
          refine hp_s (pc' := 71) (st' := [.int 6, .int o]) rfl rfl rfl ?_
          refine hp_ic (pc' := 74) (t := 76) (a := o.toInt) (b := 6) rfl rfl rfl rfl (by decide) (fun (h46 : o.toInt < 6) => ?_) (fun (h47 : ¬ (o.toInt < 6)) => ?_)
          ·
            refine hp_s (pc' := 77) (st' := [.ref 25]) rfl rfl rfl ?_
            refine hp_s (pc' := 78) (st' := [.ref 25, .ref 25]) rfl rfl rfl ?_
            refine hp_get (k := 3) (pc' := 81) (v := (rI p 25 3)) rfl rfl rfl rfl rfl rfl ?_
            refine hp_s (pc' := 82) (st' := [.int 1, .int (rI p 25 3), .ref 25]) rfl rfl rfl ?_
            refine hp_z (pc' := 83) (e := (rI p 25 3) + 1) (st' := [.ref 25]) rfl rfl rfl ?_
            intro z3 hz3
            have ez3 := i_add hz3 (show (rI p 25 3).toInt = (rI p 25 3).toInt from rfl) (show (1 : Int32).toInt = 1 from by decide)
            refine hp_put (k := 3) (pc' := 86) rfl rfl rfl rfl rfl ?_
            intro p9 wp9 ep9
            have hin := fX_in (p := p) (j := (rI p 25 3).toInt.toNat) (fun hc => by first | omega | (have q5 := lnm_no hc; omega))
            have hX1 := XO_at (z := z3) (XO_0 pre0 ga) wp (by omega) hin ep9
            have hT1 := XO_tp pre0 ga (by decide) hX1
            have hf1 := fX_nt hX1.1
            have hq := i_to hX1.2.1
            have f3 := hX1.2.2.1
            rw [List.length_nil] at f3
            refine hp_hw (fun wq => ?_)
            refine hp_s (pc' := 87) (st' := [.ref 25]) rfl rfl rfl ?_
            refine hp_s (pc' := 88) (st' := [.int y1, .ref 25]) rfl rfl rfl ?_
            refine hp_s (pc' := 89) (st' := [.int o, .int y1, .ref 25]) rfl rfl rfl ?_
            refine hp_s (pc' := 90) (st' := [.int 1, .int o, .int y1, .ref 25]) rfl rfl rfl ?_
            refine hp_z (pc' := 91) (e := o + 1) (st' := [.int y1, .ref 25]) rfl rfl rfl ?_
            intro z4 hz4
            have ez4 := i_add hz4 (show o.toInt = o.toInt from rfl) (show (1 : Int32).toInt = 1 from by decide)
            have hoz : z4.toInt.toNat = o.toInt.toNat + 1 := by omega
            refine hp_cv (r := 25) (o := 8) (kd := 1) (as := [.int y1, .int z4]) (rest := []) (pc' := 94) rfl rfl rfl rfl rfl rfl rfl rfl rfl (fun d6 => ?_)
            refine rX_rdO rc (ci := y1.toInt) rfl (oi := z4.toInt) rfl (by first | assumption | omega) (by first | assumption | omega) (by first | assumption | omega) ?_ ?_ ?_ ?_ ?_
            ·
              intro y13 y14 p10 h48 h49 h50 h51 h52 h53
              rw [hf1, hq, hoz] at h50
              rw [hf1] at h51
              rw [hq] at h52
              refine hp_id (st := [.int 1]) ?_
              refine hp_rb rfl rfl (fun _ => ?_)
              exact k0 _ _ _ (hX1.1.trans h48) (yP_po (by omega) (by omega) h50 h51) (XO_k (XO_tr pre0.2.2.2.1 hX1 h52) (by decide)) h53
            ·
              intro y15 y16 p11 p12 h54 h55 h56 h57 h58 h59 h60
              rw [hf1, hq, hoz] at h56
              rw [hq] at h57
              refine hp_id (st := [.int 1]) ?_
              refine hp_rb rfl rfl (fun _ => ?_)
              obtain ⟨y, hy1, hy2⟩ := h59
              rw [hs] at hy1
              have hX3 := XO_ad (k := 0) pre0 ga (by decide) (XO_k (XO_tr pre0.2.2.2.1 hX1 h57) (by decide)) h58 hy1 hy2
              exact k0 _ _ _ hX3.1 (yP_uo (by omega) (by omega) h56) hX3 (lK_un (by omega) h60)
            ·
              intro y17 p13 h61 h62 h63 h64
              rw [hf1, hq, hoz] at h63
              refine hp_id (st := [.int 0]) ?_
              refine hp_rb rfl rfl (fun _ => ?_)
              exact k1 _ _ (hX1.1.trans h61) (yP_pb (by omega) (by omega) h63) h64
            ·
              intro y18 y19 p14 h65 h66 h67 h68 h69
              rw [hf1, hq, hoz] at h67
              rw [hf1] at h68
              refine hp_id (st := [.int 0]) ?_
              refine hp_rb rfl rfl (fun _ => ?_)
              exact k1 _ _ (hX1.1.trans h65) (yP_pn (by omega) (by omega) h67 h68) h69
            ·
              intro y20 p15 h70 h71 h72 h73
              rw [hf1, hq, hoz] at h72
              refine hp_id (st := [.int 0]) ?_
              refine hp_rb rfl rfl (fun _ => ?_)
              exact k1 _ _ (hX1.1.trans h70) (yP_ub (by omega) (by omega) h72) h73
          ·
            refine hp_s (pc' := 75) (st' := [.int 0]) rfl rfl rfl ?_
            refine hp_rb rfl rfl (fun _ => ?_)
            first | exact k1 _ _ (hNt.refl _ _) (yP_full (by omega) (by omega)) ga | exact k1 _ _ (hNt.refl _ _) (yP_oth (by omega) (by omega) (by omega)) ga
        ·
          refine hp_s (pc' := 61) (st' := [.int y1]) rfl rfl rfl ?_
          refine hp_s (pc' := 63) (st' := [.int 45, .int y1]) rfl rfl rfl ?_
          refine hp_ic (pc' := 66) (t := 68) (a := y1.toInt) (b := 45) rfl rfl rfl rfl (by decide) (fun (h74 : y1.toInt = 45) => ?_) (fun (h75 : ¬ (y1.toInt = 45)) => ?_)
          ·
            refine hp_s (pc' := 69) (st' := [.int o]) rfl rfl rfl ?_
            refine hp_s (pc' := 71) (st' := [.int 6, .int o]) rfl rfl rfl ?_
            refine hp_ic (pc' := 74) (t := 76) (a := o.toInt) (b := 6) rfl rfl rfl rfl (by decide) (fun (h76 : o.toInt < 6) => ?_) (fun (h77 : ¬ (o.toInt < 6)) => ?_)
            ·
              refine hp_s (pc' := 77) (st' := [.ref 25]) rfl rfl rfl ?_
              refine hp_s (pc' := 78) (st' := [.ref 25, .ref 25]) rfl rfl rfl ?_
              refine hp_get (k := 3) (pc' := 81) (v := (rI p 25 3)) rfl rfl rfl rfl rfl rfl ?_
              refine hp_s (pc' := 82) (st' := [.int 1, .int (rI p 25 3), .ref 25]) rfl rfl rfl ?_
              refine hp_z (pc' := 83) (e := (rI p 25 3) + 1) (st' := [.ref 25]) rfl rfl rfl ?_
              intro z5 hz5
              have ez5 := i_add hz5 (show (rI p 25 3).toInt = (rI p 25 3).toInt from rfl) (show (1 : Int32).toInt = 1 from by decide)
              refine hp_put (k := 3) (pc' := 86) rfl rfl rfl rfl rfl ?_
              intro p16 wp16 ep16
              have hin := fX_in (p := p) (j := (rI p 25 3).toInt.toNat) (fun hc => by first | omega | (have q5 := lnm_no hc; omega))
              have hX1 := XO_at (z := z5) (XO_0 pre0 ga) wp (by omega) hin ep16
              have hT1 := XO_tp pre0 ga (by decide) hX1
              have hf1 := fX_nt hX1.1
              have hq := i_to hX1.2.1
              have f3 := hX1.2.2.1
              rw [List.length_nil] at f3
              refine hp_hw (fun wq => ?_)
              refine hp_s (pc' := 87) (st' := [.ref 25]) rfl rfl rfl ?_
              refine hp_s (pc' := 88) (st' := [.int y1, .ref 25]) rfl rfl rfl ?_
              refine hp_s (pc' := 89) (st' := [.int o, .int y1, .ref 25]) rfl rfl rfl ?_
              refine hp_s (pc' := 90) (st' := [.int 1, .int o, .int y1, .ref 25]) rfl rfl rfl ?_
              refine hp_z (pc' := 91) (e := o + 1) (st' := [.int y1, .ref 25]) rfl rfl rfl ?_
              intro z6 hz6
              have ez6 := i_add hz6 (show o.toInt = o.toInt from rfl) (show (1 : Int32).toInt = 1 from by decide)
              have hoz : z6.toInt.toNat = o.toInt.toNat + 1 := by omega
              refine hp_cv (r := 25) (o := 8) (kd := 1) (as := [.int y1, .int z6]) (rest := []) (pc' := 94) rfl rfl rfl rfl rfl rfl rfl rfl rfl (fun d7 => ?_)
              refine rX_rdO rc (ci := y1.toInt) rfl (oi := z6.toInt) rfl (by first | assumption | omega) (by first | assumption | omega) (by first | assumption | omega) ?_ ?_ ?_ ?_ ?_
              ·
                intro y21 y22 p17 h78 h79 h80 h81 h82 h83
                rw [hf1, hq, hoz] at h80
                rw [hf1] at h81
                rw [hq] at h82
                refine hp_id (st := [.int 1]) ?_
                refine hp_rb rfl rfl (fun _ => ?_)
                exact k0 _ _ _ (hX1.1.trans h78) (yP_po (by omega) (by omega) h80 h81) (XO_k (XO_tr pre0.2.2.2.1 hX1 h82) (by decide)) h83
              ·
                intro y23 y24 p18 p19 h84 h85 h86 h87 h88 h89 h90
                rw [hf1, hq, hoz] at h86
                rw [hq] at h87
                refine hp_id (st := [.int 1]) ?_
                refine hp_rb rfl rfl (fun _ => ?_)
                obtain ⟨y, hy1, hy2⟩ := h89
                rw [hs] at hy1
                have hX3 := XO_ad (k := 0) pre0 ga (by decide) (XO_k (XO_tr pre0.2.2.2.1 hX1 h87) (by decide)) h88 hy1 hy2
                exact k0 _ _ _ hX3.1 (yP_uo (by omega) (by omega) h86) hX3 (lK_un (by omega) h90)
              ·
                intro y25 p20 h91 h92 h93 h94
                rw [hf1, hq, hoz] at h93
                refine hp_id (st := [.int 0]) ?_
                refine hp_rb rfl rfl (fun _ => ?_)
                exact k1 _ _ (hX1.1.trans h91) (yP_pb (by omega) (by omega) h93) h94
              ·
                intro y26 y27 p21 h95 h96 h97 h98 h99
                rw [hf1, hq, hoz] at h97
                rw [hf1] at h98
                refine hp_id (st := [.int 0]) ?_
                refine hp_rb rfl rfl (fun _ => ?_)
                exact k1 _ _ (hX1.1.trans h95) (yP_pn (by omega) (by omega) h97 h98) h99
              ·
                intro y28 p22 h100 h101 h102 h103
                rw [hf1, hq, hoz] at h102
                refine hp_id (st := [.int 0]) ?_
                refine hp_rb rfl rfl (fun _ => ?_)
                exact k1 _ _ (hX1.1.trans h100) (yP_ub (by omega) (by omega) h102) h103
            ·
              refine hp_s (pc' := 75) (st' := [.int 0]) rfl rfl rfl ?_
              refine hp_rb rfl rfl (fun _ => ?_)
              first | exact k1 _ _ (hNt.refl _ _) (yP_full (by omega) (by omega)) ga | exact k1 _ _ (hNt.refl _ _) (yP_oth (by omega) (by omega) (by omega)) ga
          ·
            refine hp_s (pc' := 67) (st' := [.int 0]) rfl rfl rfl ?_
            refine hp_rb rfl rfl (fun _ => ?_)
            first | exact k1 _ _ (hNt.refl _ _) (yP_full (by omega) (by omega)) ga | exact k1 _ _ (hNt.refl _ _) (yP_oth (by omega) (by omega) (by omega)) ga
    ·
      refine hp_s (pc' := 27) (st' := [.ref 25]) rfl rfl rfl ?_
      refine hp_s (pc' := 28) (st' := [.ref 25, .ref 25]) rfl rfl rfl ?_
      refine hp_get (k := 3) (pc' := 31) (v := (rI p 25 3)) rfl rfl rfl rfl rfl rfl ?_
      refine hp_s (pc' := 32) (st' := [.int 1, .int (rI p 25 3), .ref 25]) rfl rfl rfl ?_
      refine hp_z (pc' := 33) (e := (rI p 25 3) + 1) (st' := [.ref 25]) rfl rfl rfl ?_
      intro z7 hz7
      have ez7 := i_add hz7 (show (rI p 25 3).toInt = (rI p 25 3).toInt from rfl) (show (1 : Int32).toInt = 1 from by decide)
      refine hp_put (k := 3) (pc' := 36) rfl rfl rfl rfl rfl ?_
      intro p23 wp23 ep23
      have hin := fX_in (p := p) (j := (rI p 25 3).toInt.toNat) (fun hc => by first | omega | (have q5 := lnm_no hc; omega))
      have hX1 := XO_at (z := z7) (XO_0 pre0 ga) wp (by omega) hin ep23
      have hT1 := XO_tp pre0 ga (by decide) hX1
      have hf1 := fX_nt hX1.1
      have hq := i_to hX1.2.1
      have f3 := hX1.2.2.1
      rw [List.length_nil] at f3
      refine hp_hw (fun wq => ?_)
      refine hp_s (pc' := 37) (st' := [.ref 25]) rfl rfl rfl ?_
      refine hp_getr (k := 0) (w := .ref 26) (pc' := 40) rfl rfl rfl rfl rfl ?_
      refine hp_s (pc' := 42) (st' := [.int 97, .ref 26]) rfl rfl rfl ?_
      refine hp_s (pc' := 43) (st' := [.int y4, .int 97, .ref 26]) rfl rfl rfl ?_
      refine hp_cv (r := 26) (o := 3) (kd := 1) (as := [.int 97, .int y4]) (rest := []) (pc' := 46) rfl rfl rfl rfl rfl rfl rfl rfl rfl (fun d8 => ?_)
      refine s_addD (xi := 97) (by decide) (yi := y4.toInt) rfl (by first | assumption | omega) ?_
      intro p24 ep24
      refine hp_id (st := []) ?_
      refine hp_s (pc' := 47) (st' := [.int 1]) rfl rfl rfl ?_
      refine hp_rb rfl rfl (fun _ => ?_)
      have hX3 := XO_ad (k := 0) (c := 97) pre0 ga (by decide) (XO_k hX1 (by decide)) wq (by decide) ep24
      rw [show y4 = Int32.ofInt (lnm (fX p (rI p 25 3).toInt.toNat)) by rw [← hn, Int32.ofInt_toInt]] at hX3
      exact k0 _ _ _ hX3.1 (yP_nam (by omega)) hX3 (lK_nam (by omega))
theorem tX_rdO {ro : List (List Int32)} {n : Nat} (rc : RC_rd ro n) : hX_rdO ro (n + 1) := by
  intro d p Q c ci o oi hc ho pre0 pre1 pre2 k0 k1 k2 k3 k4
  subst hc
  subst ho
  refine hp_id (ls := [(0, .ref 25), (1, .int c), (2, .int o)]) ?_
  obtain ⟨t1, t2, t3, t4, t5⟩ := pre0
  have pre0 : hTp p := ⟨t1, t2, t3, t4, t5⟩
  have ga : (rI p 25 3).toInt = ((rI p 25 3).toInt.toNat : Nat) := by omega
  refine hp_hw (fun wp => ?_)
  refine hp_s1 (pc' := 1) (st' := [.int c]) rfl rfl rfl ?_
  refine hp_s (pc' := 3) (st' := [.int 40, .int c]) rfl rfl rfl ?_
  refine hp_ic (pc' := 6) (t := 29) (a := c.toInt) (b := 40) rfl rfl rfl rfl (by decide) (fun (h1 : c.toInt ≠ 40) => ?_) (fun (h2 : ¬ (c.toInt ≠ 40)) => ?_)
  ·
    refine hp_s (pc' := 30) (st' := [.ref 25]) rfl rfl rfl ?_
    refine hp_s (pc' := 31) (st' := [.int o, .ref 25]) rfl rfl rfl ?_
    refine hp_cv (r := 25) (o := 8) (kd := 1) (as := [.int o]) (rest := []) (pc' := 34) rfl rfl rfl rfl rfl rfl rfl rfl rfl (fun d1 => ?_)
    refine rX_rd5 rc (oi := o.toInt) rfl (by first | assumption | omega) (by first | assumption | omega) ?_ ?_
    ·
      intro y1 y2 p1 h3 h4 h5 h6
      refine hp_hw (fun wq => ?_)
      have hX := h5
      have x1 := hX.2.1
      have x2 := hX.2.2.1
      have x3 := hX.2.2.2.1
      have x4 := hX.2.2.2.2.1
      have hT := XO_tp pre0 ga (by decide) hX
      have hfb : fX p1 (rI p1 25 3).toInt.toNat = fX p y2 := by rw [fX_nt hX.1, i_to x1]
      refine hp_id (st := [.int 1]) ?_
      refine hp_go (pc' := 39) rfl rfl rfl ?_
      refine hp_s (pc' := 40) (st' := [.ref 25]) rfl rfl rfl ?_
      refine hp_getr (k := 0) (w := .ref 26) (pc' := 43) rfl rfl rfl rfl rfl ?_
      refine hp_s (pc' := 44) (st' := [.int c, .ref 26]) rfl rfl rfl ?_
      refine hp_s (pc' := 46) (st' := [.int 33, .int c, .ref 26]) rfl rfl rfl ?_
      refine hp_ic (pc' := 49) (t := 54) (a := c.toInt) (b := 33) rfl rfl rfl rfl (by decide) (fun (h7 : c.toInt ≠ 33) => ?_) (fun (h8 : ¬ (c.toInt ≠ 33)) => ?_)
      ·
        refine hp_s (pc' := 56) (st' := [.int 126, .ref 26]) rfl rfl rfl ?_
        refine hp_s (pc' := 57) (st' := [.int 0, .int 126, .ref 26]) rfl rfl rfl ?_
        refine hp_cv (r := 26) (o := 3) (kd := 1) (as := [.int 126, .int 0]) (rest := []) (pc' := 60) rfl rfl rfl rfl rfl rfl rfl rfl rfl (fun d2 => ?_)
        refine s_addD (xi := 126) (by decide) (yi := 0) (by decide) (by first | assumption | omega) ?_
        intro p2 ep2
        refine hp_id (st := []) ?_
        refine hp_s (pc' := 61) (st' := [.int 1]) rfl rfl rfl ?_
        refine hp_rb rfl rfl (fun _ => ?_)
        exact k1 _ _ _ _ (by rw [ep2]; exact ((h3.w rfl).w rfl).w rfl) (by omega) h4 h5 wq ⟨_, (by unfold lun; first | (rw [if_pos (by omega)]; decide) | (rw [if_neg (by omega)]; decide)), ep2⟩ h6
      ·
        refine hp_s (pc' := 51) (st' := [.int 33, .ref 26]) rfl rfl rfl ?_
        refine hp_go (pc' := 56) rfl rfl rfl ?_
        refine hp_s (pc' := 57) (st' := [.int 0, .int 33, .ref 26]) rfl rfl rfl ?_
        refine hp_cv (r := 26) (o := 3) (kd := 1) (as := [.int 33, .int 0]) (rest := []) (pc' := 60) rfl rfl rfl rfl rfl rfl rfl rfl rfl (fun d3 => ?_)
        refine s_addD (xi := 33) (by decide) (yi := 0) (by decide) (by first | assumption | omega) ?_
        intro p3 ep3
        refine hp_id (st := []) ?_
        refine hp_s (pc' := 61) (st' := [.int 1]) rfl rfl rfl ?_
        refine hp_rb rfl rfl (fun _ => ?_)
        exact k1 _ _ _ _ (by rw [ep3]; exact ((h3.w rfl).w rfl).w rfl) (by omega) h4 h5 wq ⟨_, (by unfold lun; first | (rw [if_pos (by omega)]; decide) | (rw [if_neg (by omega)]; decide)), ep3⟩ h6
    ·
      intro y3 p4 h9 h10 h11
      skip
      refine hp_id (st := [.int 0]) ?_
      refine hp_go (pc' := 37) rfl rfl rfl ?_
      refine hp_s (pc' := 38) (st' := [.int 0]) rfl rfl rfl ?_
      refine hp_rb rfl rfl (fun _ => ?_)
      exact k4 _ _ h9 (by omega) h10 h11
  ·
    refine hp_s (pc' := 7) (st' := [.ref 25]) rfl rfl rfl ?_
    refine hp_s (pc' := 8) (st' := [.int o, .ref 25]) rfl rfl rfl ?_
    refine hp_cv (r := 25) (o := 8) (kd := 1) (as := [.int o]) (rest := []) (pc' := 11) rfl rfl rfl rfl rfl rfl rfl rfl rfl (fun d4 => ?_)
    refine rX_rd0 rc (oi := o.toInt) rfl (by first | assumption | omega) (by first | assumption | omega) ?_ ?_
    ·
      intro y4 y5 p5 h12 h13 h14 h15
      refine hp_hw (fun wq => ?_)
      have hX := h14
      have x1 := hX.2.1
      have x2 := hX.2.2.1
      have x3 := hX.2.2.2.1
      have x4 := hX.2.2.2.2.1
      have hT := XO_tp pre0 ga (by decide) hX
      have hfb : fX p5 (rI p5 25 3).toInt.toNat = fX p y5 := by rw [fX_nt hX.1, i_to x1]
      refine hp_id (st := [.int 1]) ?_
      refine hp_go (pc' := 14) rfl rfl rfl ?_
      refine hp_s (pc' := 15) (st' := [.ref 25]) rfl rfl rfl ?_
      refine hp_s (pc' := 17) (st' := [.int 41, .ref 25]) rfl rfl rfl ?_
      refine hp_cv (r := 25) (o := 8) (kd := 1) (as := [.int 41]) (rest := []) (pc' := 20) rfl rfl rfl rfl rfl rfl rfl rfl rfl (fun d5 => ?_)
      refine s_passOver (ci := 41) (by decide) (by first | assumption | omega) ?_ ?_
      ·
        intro p6 ep6 h16
        have hb41 : fX p y5 = 41 := by rw [← hfb]; exact h16
        have hX1 := XO_at (z := rI p5 25 3 + 1) hX wq (by have q := i_add (z := rI p5 25 3 + 1) rfl rfl (show (1 : Int32).toInt = 1 from by decide); omega) (fX_in (by omega)) ep6
        refine hp_id (st := [.int 1]) ?_
        refine hp_go (pc' := 23) rfl rfl rfl ?_
        refine hp_s (pc' := 24) (st' := [.int 1]) rfl rfl rfl ?_
        refine hp_go (pc' := 28) rfl rfl rfl ?_
        refine hp_rb rfl rfl (fun _ => ?_)
        exact k0 _ _ _ hX1.1 (by omega) h13 hb41 (XO_k hX1 (by decide)) h15
      ·
        intro h17
        have hb41 : fX p y5 ≠ 41 := by rw [← hfb]; exact h17
        refine hp_id (st := [.int 0]) ?_
        refine hp_go (pc' := 27) rfl rfl rfl ?_
        refine hp_s (pc' := 28) (st' := [.int 0]) rfl rfl rfl ?_
        refine hp_rb rfl rfl (fun _ => ?_)
        exact k3 _ _ _ h12 (by omega) h13 hb41 x1
    ·
      intro y6 p7 h18 h19 h20
      skip
      refine hp_id (st := [.int 0]) ?_
      refine hp_go (pc' := 27) rfl rfl rfl ?_
      refine hp_s (pc' := 28) (st' := [.int 0]) rfl rfl rfl ?_
      refine hp_rb rfl rfl (fun _ => ?_)
      exact k2 _ _ h18 (by omega) h19 h20
theorem RC_rd_all {ro : List (List Int32)} : ∀ n : Nat, RC_rd ro n
  | 0 => ⟨fun _ _ _ _ _ => hp_0, fun _ _ _ _ _ => hp_0, fun _ _ _ _ _ => hp_0, fun _ _ _ _ _ => hp_0, fun _ _ _ _ _ => hp_0, fun _ _ _ _ _ => hp_0, fun _ _ _ _ _ _ _ _ _ _ => hp_0⟩
  | n + 1 => ⟨tX_rd0 (RC_rd_all n), tX_rd1 (RC_rd_all n), tX_rd2 (RC_rd_all n), tX_rd3 (RC_rd_all n), tX_rd4 (RC_rd_all n), tX_rd5 (RC_rd_all n), tX_rdO (RC_rd_all n)⟩
theorem X_rd0 {ro : List (List Int32)} {n : Nat} {d : Nat} {p : xH} {Q : Option Value → xH → Prop} {o : Int32} {oi : Int} (ho : o.toInt = oi) (pre0 : hTp p) (pre1 : 0 ≤ oi) (k0 : ∀ e : lE, ∀ b : Nat, ∀ p2 : xH, (hNt T_rd p p2) → (yP (fX p) 0 none oi.toNat (rI p 25 3).toInt.toNat (some e, b)) → (XO 0 p p2 (rI p 25 3).toInt.toNat e b) → (lK e) → Q (some (.int (1))) p2) (k1 : ∀ b : Nat, ∀ p2 : xH, (hNt T_rd p p2) → (yP (fX p) 0 none oi.toNat (rI p 25 3).toInt.toNat (none, b)) → ((rI p2 25 3).toInt = b) → Q (some (.int (0))) p2) : hP ro n d (8, 3, 1, 2, k97) 0 (lv_args 0 [.ref 25, .int o]) [] p Q := rX_rd0 (RC_rd_all n) ho pre0 pre1 k0 k1
theorem X_rd1 {ro : List (List Int32)} {n : Nat} {d : Nat} {p : xH} {Q : Option Value → xH → Prop} {o : Int32} {oi : Int} (ho : o.toInt = oi) (pre0 : hTp p) (pre1 : 0 ≤ oi) (k0 : ∀ e : lE, ∀ b : Nat, ∀ p2 : xH, (hNt T_rd p p2) → (yP (fX p) 1 none oi.toNat (rI p 25 3).toInt.toNat (some e, b)) → (XO 0 p p2 (rI p 25 3).toInt.toNat e b) → (lK e) → Q (some (.int (1))) p2) (k1 : ∀ b : Nat, ∀ p2 : xH, (hNt T_rd p p2) → (yP (fX p) 1 none oi.toNat (rI p 25 3).toInt.toNat (none, b)) → ((rI p2 25 3).toInt = b) → Q (some (.int (0))) p2) : hP ro n d (8, 3, 1, 2, k98) 0 (lv_args 0 [.ref 25, .int o]) [] p Q := rX_rd1 (RC_rd_all n) ho pre0 pre1 k0 k1
theorem X_rd2 {ro : List (List Int32)} {n : Nat} {d : Nat} {p : xH} {Q : Option Value → xH → Prop} {o : Int32} {oi : Int} (ho : o.toInt = oi) (pre0 : hTp p) (pre1 : 0 ≤ oi) (k0 : ∀ e : lE, ∀ b : Nat, ∀ p2 : xH, (hNt T_rd p p2) → (yP (fX p) 2 none oi.toNat (rI p 25 3).toInt.toNat (some e, b)) → (XO 0 p p2 (rI p 25 3).toInt.toNat e b) → (lK e) → Q (some (.int (1))) p2) (k1 : ∀ b : Nat, ∀ p2 : xH, (hNt T_rd p p2) → (yP (fX p) 2 none oi.toNat (rI p 25 3).toInt.toNat (none, b)) → ((rI p2 25 3).toInt = b) → Q (some (.int (0))) p2) : hP ro n d (8, 3, 1, 2, k99) 0 (lv_args 0 [.ref 25, .int o]) [] p Q := rX_rd2 (RC_rd_all n) ho pre0 pre1 k0 k1
theorem X_rd3 {ro : List (List Int32)} {n : Nat} {d : Nat} {p : xH} {Q : Option Value → xH → Prop} {o : Int32} {oi : Int} (ho : o.toInt = oi) (pre0 : hTp p) (pre1 : 0 ≤ oi) (k0 : ∀ e : lE, ∀ b : Nat, ∀ p2 : xH, (hNt T_rd p p2) → (yP (fX p) 3 none oi.toNat (rI p 25 3).toInt.toNat (some e, b)) → (XO 0 p p2 (rI p 25 3).toInt.toNat e b) → (lK e) → Q (some (.int (1))) p2) (k1 : ∀ b : Nat, ∀ p2 : xH, (hNt T_rd p p2) → (yP (fX p) 3 none oi.toNat (rI p 25 3).toInt.toNat (none, b)) → ((rI p2 25 3).toInt = b) → Q (some (.int (0))) p2) : hP ro n d (8, 4, 1, 2, k100) 0 (lv_args 0 [.ref 25, .int o]) [] p Q := rX_rd3 (RC_rd_all n) ho pre0 pre1 k0 k1
theorem X_rd4 {ro : List (List Int32)} {n : Nat} {d : Nat} {p : xH} {Q : Option Value → xH → Prop} {o : Int32} {oi : Int} (ho : o.toInt = oi) (pre0 : hTp p) (pre1 : 0 ≤ oi) (k0 : ∀ e : lE, ∀ b : Nat, ∀ p2 : xH, (hNt T_rd p p2) → (yP (fX p) 4 none oi.toNat (rI p 25 3).toInt.toNat (some e, b)) → (XO 0 p p2 (rI p 25 3).toInt.toNat e b) → (lK e) → Q (some (.int (1))) p2) (k1 : ∀ b : Nat, ∀ p2 : xH, (hNt T_rd p p2) → (yP (fX p) 4 none oi.toNat (rI p 25 3).toInt.toNat (none, b)) → ((rI p2 25 3).toInt = b) → Q (some (.int (0))) p2) : hP ro n d (8, 4, 1, 2, k101) 0 (lv_args 0 [.ref 25, .int o]) [] p Q := rX_rd4 (RC_rd_all n) ho pre0 pre1 k0 k1
theorem X_rd5 {ro : List (List Int32)} {n : Nat} {d : Nat} {p : xH} {Q : Option Value → xH → Prop} {o : Int32} {oi : Int} (ho : o.toInt = oi) (pre0 : hTp p) (pre1 : 0 ≤ oi) (k0 : ∀ e : lE, ∀ b : Nat, ∀ p2 : xH, (hNt T_rd p p2) → (yP (fX p) 5 none oi.toNat (rI p 25 3).toInt.toNat (some e, b)) → (XO 0 p p2 (rI p 25 3).toInt.toNat e b) → (lK e) → Q (some (.int (1))) p2) (k1 : ∀ b : Nat, ∀ p2 : xH, (hNt T_rd p p2) → (yP (fX p) 5 none oi.toNat (rI p 25 3).toInt.toNat (none, b)) → ((rI p2 25 3).toInt = b) → Q (some (.int (0))) p2) : hP ro n d (8, 4, 1, 2, k102) 0 (lv_args 0 [.ref 25, .int o]) [] p Q := rX_rd5 (RC_rd_all n) ho pre0 pre1 k0 k1
theorem X_rdO {ro : List (List Int32)} {n : Nat} {d : Nat} {p : xH} {Q : Option Value → xH → Prop} {c : Int32} {ci : Int} {o : Int32} {oi : Int} (hc : c.toInt = ci) (ho : o.toInt = oi) (pre0 : hTp p) (pre1 : 0 ≤ oi) (pre2 : ci = 33 ∨ ci = 40 ∨ ci = 45) (k0 : ∀ e : lE, ∀ b : Nat, ∀ p2 : xH, (hNt T_rd p p2) → (ci = 40) → (yP (fX p) 0 none oi.toNat (rI p 25 3).toInt.toNat (some e, b)) → (fX p b = 41) → (XO 0 p p2 (rI p 25 3).toInt.toNat e (b + 1)) → (lK e) → Q (some (.int (1))) p2) (k1 : ∀ e : lE, ∀ b : Nat, ∀ p1 : xH, ∀ p2 : xH, (hNt T_rd p p2) → (ci ≠ 40) → (yP (fX p) 5 none oi.toNat (rI p 25 3).toInt.toNat (some e, b)) → (XO 0 p p1 (rI p 25 3).toInt.toNat e b) → (hW p1) → (∃ y : Int32, y.toInt = lun ci ∧ p2 = wV (wV (wV p1 27 (rI p1 26 2).toInt.toNat (.int y)) 28 (rI p1 26 2).toInt.toNat (.int 0)) 26 2 (.int (rI p1 26 2 + 1))) → (lK e) → Q (some (.int (1))) p2) (k2 : ∀ b : Nat, ∀ p2 : xH, (hNt T_rd p p2) → (ci = 40) → (yP (fX p) 0 none oi.toNat (rI p 25 3).toInt.toNat (none, b)) → ((rI p2 25 3).toInt = b) → Q (some (.int (0))) p2) (k3 : ∀ e : lE, ∀ b : Nat, ∀ p2 : xH, (hNt T_rd p p2) → (ci = 40) → (yP (fX p) 0 none oi.toNat (rI p 25 3).toInt.toNat (some e, b)) → (fX p b ≠ 41) → ((rI p2 25 3).toInt = b) → Q (some (.int (0))) p2) (k4 : ∀ b : Nat, ∀ p2 : xH, (hNt T_rd p p2) → (ci ≠ 40) → (yP (fX p) 5 none oi.toNat (rI p 25 3).toInt.toNat (none, b)) → ((rI p2 25 3).toInt = b) → Q (some (.int (0))) p2) : hP ro n d (8, 3, 1, 2, k103) 0 (lv_args 0 [.ref 25, .int c, .int o]) [] p Q := rX_rdO (RC_rd_all n) hc ho pre0 pre1 pre2 k0 k1 k2 k3 k4
