/-! contracts of methods, walked -/
/-- what the acts answer, and the numbers that they begin: o the own kind, k the kind whose body runs, a who acts -/
def aL (k : Int) (a x : Int32) : Int32 := if k = 1 ∨ k = 4 ∨ k = 7 then x + a + 3 else if k = 6 then (x + a) * 2 else x + a
def nL (k : Int) : List Int32 := if k = 1 ∨ k = 4 ∨ k = 7 then [20, 1] else if k = 6 then [70, 1] else [1]
def aQ (o k : Int) (a x : Int32) : Int32 := if k = 3 ∨ k = 5 then (x ^^^ a) * 3 else if k = 4 ∨ k = 7 then (x ^^^ a) - aL o a 2 else x ^^^ a
def nQ (o k : Int) : List Int32 := if k = 3 ∨ k = 5 then [40, 11] else if k = 4 ∨ k = 7 then 50 :: 11 :: nL o else [11]
def aW (o k : Int) (a x : Int32) : Int32 := if k = 3 ∨ k = 5 then -(aL o a (x + 1) * 2) else if k = 2 then -(aL o a x * 2) else if k = 7 then aL o a x * 2 + aQ o o a 2 else aL o a x * 2
def nW (o k : Int) : List Int32 := if k = 3 ∨ k = 5 then 41 :: 30 :: 10 :: nL o else if k = 2 then 30 :: 10 :: nL o else if k = 7 then 80 :: 10 :: (nL o ++ nQ o o) else 10 :: nL o
def aT0 (o : Int) (a x : Int32) : Int32 := aW o o a x - aQ o o a 1
def nT0 (o : Int) : List Int32 := 2 :: (nW o o ++ nQ o o)
def aT (o k : Int) (a x : Int32) : Int32 := if k = 5 then aT0 o a x ^^^ 5 else if k = 7 then aT0 o a x - 1 else aT0 o a x
def nT (o k : Int) : List Int32 := if k = 5 then 60 :: nT0 o else if k = 7 then 81 :: nT0 o else nT0 o
theorem aL_a {k : Int} {a x : Int32} (h : k = 1 ∨ k = 4 ∨ k = 7) : aL 0 a x + 3 = aL k a x ∧ 20 :: nL 0 = nL k := by unfold aL nL; rw [if_pos h, if_pos h]; exact ⟨rfl, rfl⟩
theorem aL_b {k : Int} {a x : Int32} (h : k = 6) : aL 0 a x * 2 = aL k a x ∧ 70 :: nL 0 = nL k := by subst h; exact ⟨rfl, rfl⟩
theorem aL_c {k : Int} {a x : Int32} (h : ¬ (k = 1 ∨ k = 4 ∨ k = 7)) (g : k ≠ 6) : x + a = aL k a x ∧ [1] = nL k := by unfold aL nL; rw [if_neg h, if_neg g, if_neg h, if_neg g]; exact ⟨rfl, rfl⟩
theorem aQ_a {o k : Int} {a x : Int32} (h : k = 3 ∨ k = 5) : aQ o 2 a x * 3 = aQ o k a x ∧ 40 :: nQ o 2 = nQ o k := by unfold aQ nQ; rw [if_pos h, if_pos h]; exact ⟨rfl, rfl⟩
theorem aQ_b {o k : Int} {a x : Int32} (h : k = 4 ∨ k = 7) : aQ o 1 a x - aL o a 2 = aQ o k a x ∧ 50 :: (nQ o 1 ++ nL o) = nQ o k := by rcases h with h | h <;> (subst h; exact ⟨rfl, rfl⟩)
theorem aQ_c {o k : Int} {a x : Int32} (h : ¬ (k = 3 ∨ k = 5)) (g : ¬ (k = 4 ∨ k = 7)) : x ^^^ a = aQ o k a x ∧ [11] = nQ o k := by unfold aQ nQ; rw [if_neg h, if_neg g, if_neg h, if_neg g]; exact ⟨rfl, rfl⟩
theorem aW_a {o k : Int} {a x : Int32} (h : k = 3 ∨ k = 5) : aW o 2 a (x + 1) = aW o k a x ∧ 41 :: nW o 2 = nW o k := by rcases h with h | h <;> (subst h; exact ⟨rfl, rfl⟩)
theorem aW_b {o k : Int} {a x : Int32} (h : k = 2) : -(aW o 0 a x) = aW o k a x ∧ 30 :: nW o 0 = nW o k := by subst h; exact ⟨rfl, rfl⟩
theorem aW_d {o k : Int} {a x : Int32} (h : k = 7) : aW o 4 a x + aQ o o a 2 = aW o k a x ∧ 80 :: (nW o 4 ++ nQ o o) = nW o k := by subst h; exact ⟨rfl, rfl⟩
theorem aW_c {o k : Int} {a x : Int32} (h : ¬ (k = 3 ∨ k = 5)) (g : k ≠ 2) (f : k ≠ 7) : aL o a x * 2 = aW o k a x ∧ 10 :: nL o = nW o k := by unfold aW nW; rw [if_neg h, if_neg g, if_neg f, if_neg h, if_neg g, if_neg f]; exact ⟨rfl, rfl⟩
theorem aT_a {o k : Int} {a x : Int32} (h : k = 5) : aT o 3 a x ^^^ 5 = aT o k a x ∧ 60 :: nT o 3 = nT o k := by subst h; exact ⟨rfl, rfl⟩
theorem aT_b {o k : Int} {a x : Int32} (h : k = 7) : aT o 4 a x - 1 = aT o k a x ∧ 81 :: nT o 4 = nT o k := by subst h; exact ⟨rfl, rfl⟩
theorem aT_c {o k : Int} {a x : Int32} (h : k ≠ 5) (g : k ≠ 7) : aW o o a x - aQ o o a 1 = aT o k a x ∧ 2 :: (nW o o ++ nQ o o) = nT o k := by unfold aT nT; rw [if_neg h, if_neg g, if_neg h, if_neg g]; exact ⟨rfl, rfl⟩
/-- a number begins -/
def hB1 (p : xH) (v : Int32) : xH := if (rI p 57 3).toInt < 24 then wV (wV p 59 (rI p 57 3).toInt.toNat (.int v)) 57 3 (.int (rI p 57 3 + 1)) else wV p 57 3 (.int (rI p 57 3 + 1))
def hBg : xH → List Int32 → xH
  | p, [] => p
  | p, v :: l => hBg (hB1 p v) l
theorem hBg_s {p : xH} {v : Int32} {l : List Int32} : hBg (hB1 p v) l = hBg p (v :: l) := rfl
theorem hBg_app : ∀ {l m : List Int32} {p : xH}, hBg (hBg p l) m = hBg p (l ++ m)
  | [], _, _ => rfl
  | _ :: l, _, _ => hBg_app (l := l)
theorem hB1_o {p : xH} {v : Int32} {r k : Nat} (h : r = 57 → k ≠ 3) (h2 : r ≠ 59) : rV (hB1 p v) r k = rV p r k := by
  unfold hB1
  by_cases z : (rI p 57 3).toInt < 24
  · rw [if_pos z, rV_ne h, rV_ne (fun e => absurd e h2)]
  · rw [if_neg z, rV_ne h]
theorem hBg_o : ∀ {l : List Int32} {p : xH} {r k : Nat} (_ : r = 57 → k ≠ 3) (_ : r ≠ 59), rV (hBg p l) r k = rV p r k
  | [], _, _, _, _, _ => rfl
  | v :: l, p, _, _, h, h2 => (hBg_o (l := l) (p := hB1 p v) h h2).trans (hB1_o h h2)
theorem hB1_w {p : xH} {v : Int32} (h : hW p) : hW (hB1 p v) := by
  unfold hB1
  by_cases z : (rI p 57 3).toInt < 24
  · rw [if_pos z]
    have w1 : hW (wV p 59 (rI p 57 3).toInt.toNat (.int v)) := hW_wV h rfl
    exact hW_wV w1 rfl
  · rw [if_neg z]; exact hW_wV h rfl
def gA (p : xH) : Int32 := rI p 57 4
def gO (p : xH) : Int := (rI p 58 (rI p 57 4).toInt.toNat).toInt
def hKi (p : xH) : Prop := ∀ j, 0 ≤ (rI p 58 j).toInt ∧ (rI p 58 j).toInt < 8
theorem gA_1 {p : xH} {v : Int32} : gA (hB1 p v) = gA p := by unfold gA rI; rw [hB1_o (fun _ => by decide) (by decide)]
theorem gA_g {p : xH} {l : List Int32} : gA (hBg p l) = gA p := by unfold gA rI; rw [hBg_o (fun _ => by decide) (by decide)]
theorem hB1_i {p : xH} {v : Int32} {r k : Nat} (h : r = 57 → k ≠ 3) (h2 : r ≠ 59) : rI (hB1 p v) r k = rI p r k := by unfold rI; rw [hB1_o h h2]
theorem hBg_i {l : List Int32} {p : xH} {r k : Nat} (h : r = 57 → k ≠ 3) (h2 : r ≠ 59) : rI (hBg p l) r k = rI p r k := by unfold rI; rw [hBg_o h h2]
theorem gO_1 {p : xH} {v : Int32} : gO (hB1 p v) = gO p := by unfold gO; rw [hB1_i (r := 57) (k := 4) (fun _ => by decide) (by decide), hB1_i (r := 58) (fun e => absurd e (by decide)) (by decide)]
theorem gO_g {p : xH} {l : List Int32} : gO (hBg p l) = gO p := by unfold gO; rw [hBg_i (r := 57) (k := 4) (fun _ => by decide) (by decide), hBg_i (r := 58) (fun e => absurd e (by decide)) (by decide)]
theorem hKi_1 {p : xH} {v : Int32} (h : hKi p) : hKi (hB1 p v) := fun j => by unfold rI; rw [hB1_o (fun e => absurd e (by decide)) (by decide)]; exact h j
theorem hKi_g {p : xH} {l : List Int32} (h : hKi p) : hKi (hBg p l) := fun j => by unfold rI; rw [hBg_o (fun e => absurd e (by decide)) (by decide)]; exact h j
theorem s_run1 {ro : List (List Int32)} {n d : Nat} {p : xH} {Q : Option Value → xH → Prop} {x : Int32} {xi : Int} {v : Int32} {vi : Int} (hro : jro ro) (hx : x.toInt = xi) (hv : v.toInt = vi) (pre0 : 0 ≤ vi) (pre1 : vi ≤ 1000) (pre2 : hKi p) (k0 : ∀ z : Int32, ∀ p2 : xH, (z = x + gA p) → (p2 = hBg p ([])) → Q (some (.int z)) p2) : hP ro n d (9, 7, 1, 1, k116) 0 (lv_args 0 [.ref 57, .int 1, .int x, .int v]) [] p Q := by
  subst hx
  subst hv
  refine hp_id (ls := [(0, .ref 57), (1, .int 1), (2, .int x), (3, .int v)]) ?_
  refine hp_s (pc' := 1) (st' := [.int 1]) rfl rfl rfl ?_
  refine hp_go (pc' := 116) rfl rfl rfl ?_
  refine hp_s (pc' := 117) (st' := [.int x]) rfl rfl rfl ?_
  refine hp_s (pc' := 118) (st' := [.ref 57, .int x]) rfl rfl rfl ?_
  refine hp_get (k := 4) (pc' := 121) (v := (rI p 57 4)) rfl rfl rfl rfl rfl rfl ?_
  refine hp_z (pc' := 122) (e := x + (rI p 57 4)) (st' := []) rfl rfl rfl ?_
  intro z1 hz1
  have ez1 := i_add hz1 (show x.toInt = x.toInt from rfl) (show (rI p 57 4).toInt = (rI p 57 4).toInt from rfl)
  refine hp_ri rfl rfl ?_
  first | (exact k0 _ _ (by first | assumption | (subst_vars; first | rfl | (simp only [gO_g, gA_g, hBg_app]; done) | (simp only [gO_g, gA_g, hBg_app]; rfl))) (by first | assumption | (subst_vars; first | rfl | (simp only [gO_g, gA_g, hBg_app]; done) | (simp only [gO_g, gA_g, hBg_app]; rfl)))) | (exfalso; omega)
theorem s_from0_0 {ro : List (List Int32)} {n d : Nat} {p : xH} {Q : Option Value → xH → Prop} {x : Int32} {xi : Int} {v : Int32} {vi : Int} (hro : jro ro) (hx : x.toInt = xi) (hv : v.toInt = vi) (pre0 : 0 ≤ vi) (pre1 : vi ≤ 40) (pre2 : hKi p) (k0 : ∀ z : Int32, ∀ p2 : xH, (z = aL 0 (gA p) x) → (p2 = hBg p (nL 0)) → Q (some (.int z)) p2) : hP ro n d (9, 7, 1, 1, k115) 0 (lv_args 0 [.ref 57, .int 0, .int 0, .int x, .int v]) [] p Q := by
  subst hx
  subst hv
  refine hp_id (ls := [(0, .ref 57), (1, .int 0), (2, .int 0), (3, .int x), (4, .int v)]) ?_
  refine hp_s (pc' := 2) (st' := [.int v]) rfl rfl rfl ?_
  refine hp_s (pc' := 4) (st' := [.int 40, .int v]) rfl rfl rfl ?_
  refine hp_ic (pc' := 7) (t := 9) (a := v.toInt) (b := 40) rfl rfl rfl rfl (by decide) (fun (h1 : v.toInt ≤ 40) => ?_) (fun (h2 : ¬ (v.toInt ≤ 40)) => ?_)
  ·
    refine hp_s (pc' := 10) (st' := [.int 0]) rfl rfl rfl ?_
    refine hp_s (pc' := 12) (ls' := [(5, .int 0), (0, .ref 57), (1, .int 0), (2, .int 0), (3, .int x), (4, .int v)]) (st' := []) rfl rfl rfl ?_
    refine hp_s (pc' := 13) (st' := [.int 0]) rfl rfl rfl ?_
    refine hp_s (pc' := 15) (ls' := [(6, .int 0), (5, .int 0), (0, .ref 57), (1, .int 0), (2, .int 0), (3, .int x), (4, .int v)]) (st' := []) rfl rfl rfl ?_
    refine hp_s (pc' := 17) (st' := [.int 0]) rfl rfl rfl ?_
    refine hp_s (pc' := 19) (st' := [.int 8, .int 0]) rfl rfl rfl ?_
    refine hp_go (pc' := 22) rfl rfl rfl ?_
    refine hp_sta (k := 2) (pc' := 25) rfl rfl rfl ?_
    refine hp_s (pc' := 27) (st' := [.int 0, .retAddr 2]) rfl rfl rfl ?_
    refine hp_s (pc' := 28) (st' := [.int 4, .int 0, .retAddr 2]) rfl rfl rfl ?_
    refine hp_s (pc' := 29) (st' := [.int 0, .retAddr 2]) rfl rfl rfl ?_
    refine hp_s (pc' := 30) (st' := [.int 0, .int 0, .retAddr 2]) rfl rfl rfl ?_
    refine hp_s (pc' := 31) (st' := [.int 0, .retAddr 2]) rfl rfl rfl ?_
    refine hp_lds (v := 1) hro.2 rfl rfl (by decide +kernel) ?_
    intro g1a g1b
    refine hp_go (pc' := 49) rfl rfl rfl ?_
    refine hp_sta (k := 2) (pc' := 52) rfl rfl rfl ?_
    refine hp_s (pc' := 54) (st' := [.int 0, .retAddr 2]) rfl rfl rfl ?_
    refine hp_s (pc' := 55) (st' := [.int 4, .int 0, .retAddr 2]) rfl rfl rfl ?_
    refine hp_s (pc' := 56) (st' := [.int 0, .retAddr 2]) rfl rfl rfl ?_
    refine hp_s (pc' := 57) (st' := [.int 0, .int 0, .retAddr 2]) rfl rfl rfl ?_
    refine hp_s (pc' := 58) (st' := [.int 0, .retAddr 2]) rfl rfl rfl ?_
    refine hp_lds (v := 1) hro.2 rfl rfl (by decide +kernel) ?_
    intro g2a g2b
    refine hp_s (pc' := 61) (ls' := [(6, .int 1), (5, .int 0), (0, .ref 57), (1, .int 0), (2, .int 0), (3, .int x), (4, .int v)]) (st' := []) rfl rfl rfl ?_
    refine hp_s (pc' := 62) (st' := [.ref 57]) rfl rfl rfl ?_
    refine hp_get (k := 3) (pc' := 65) (v := (rI p 57 3)) rfl rfl rfl rfl rfl rfl ?_
    refine hp_s (pc' := 67) (st' := [.int 24, .int (rI p 57 3)]) rfl rfl rfl ?_
    refine hp_ic (pc' := 70) (t := 81) (a := (rI p 57 3).toInt) (b := 24) rfl rfl rfl rfl (by decide) (fun (h3 : 24 ≤ (rI p 57 3).toInt) => ?_) (fun (h4 : ¬ (24 ≤ (rI p 57 3).toInt)) => ?_)
    ·
      refine hp_s (pc' := 82) (st' := [.ref 57]) rfl rfl rfl ?_
      refine hp_s (pc' := 83) (st' := [.ref 57, .ref 57]) rfl rfl rfl ?_
      refine hp_get (k := 3) (pc' := 86) (v := (rI p 57 3)) rfl rfl rfl rfl rfl rfl ?_
      refine hp_s (pc' := 87) (st' := [.int 1, .int (rI p 57 3), .ref 57]) rfl rfl rfl ?_
      refine hp_z (pc' := 88) (e := (rI p 57 3) + 1) (st' := [.ref 57]) rfl rfl rfl ?_
      intro z5 hz5
      have ez5 := i_add hz5 (show (rI p 57 3).toInt = (rI p 57 3).toInt from rfl) (show (1 : Int32).toInt = 1 from by decide)
      refine hp_put (k := 3) (pc' := 91) rfl rfl rfl rfl rfl ?_
      intro p1 wp1 ep1
      have eB : p1 = hB1 p 1 := (by subst_vars; unfold hB1; first | rw [if_pos (by omega)] | rw [if_neg (by omega)])
      refine hp_s (pc' := 92) (st' := [.ref 57]) rfl rfl rfl ?_
      refine hp_s (pc' := 94) (st' := [.int 1, .ref 57]) rfl rfl rfl ?_
      refine hp_s (pc' := 95) (st' := [.int x, .int 1, .ref 57]) rfl rfl rfl ?_
      refine hp_s (pc' := 97) (st' := [.int v, .int x, .int 1, .ref 57]) rfl rfl rfl ?_
      refine hp_s (pc' := 98) (st' := [.int 1, .int v, .int x, .int 1, .ref 57]) rfl rfl rfl ?_
      refine hp_z (pc' := 99) (e := v + 1) (st' := [.int x, .int 1, .ref 57]) rfl rfl rfl ?_
      intro z6 hz6
      have ez6 := i_add hz6 (show v.toInt = v.toInt from rfl) (show (1 : Int32).toInt = 1 from by decide)
      refine hp_cv (r := 57) (o := 9) (kd := 1) (as := [.int 1, .int x, .int z6]) (rest := []) (pc' := 102) rfl rfl rfl rfl rfl rfl rfl rfl rfl (fun d1 => ?_)
      refine s_run1 hro (xi := x.toInt) rfl (vi := z6.toInt) rfl (by first | with_reducible assumption | omega | (rw [eB]; exact hKi_1 pre2) | (subst_vars; with_reducible (repeat (first | assumption | apply hKi_g)))) (by first | with_reducible assumption | omega | (rw [eB]; exact hKi_1 pre2) | (subst_vars; with_reducible (repeat (first | assumption | apply hKi_g)))) (by first | with_reducible assumption | omega | (rw [eB]; exact hKi_1 pre2) | (subst_vars; with_reducible (repeat (first | assumption | apply hKi_g)))) ?_
      intro y1 p2 h5 h6
      have qz := h5
      have qp := h6
      refine hp_id (st := [.int y1]) ?_
      refine hp_ri rfl rfl ?_
      first | (exact k0 _ _ (by first | (rw [qz, eB]; first | (rw [gO_1, gA_1]; rfl) | (rw [gA_1]; rfl) | rfl) | (rw [qp, eB]; first | (rw [gO_1]; rfl) | rfl)) (by first | (rw [qz, eB]; first | (rw [gO_1, gA_1]; rfl) | (rw [gA_1]; rfl) | rfl) | (rw [qp, eB]; first | (rw [gO_1]; rfl) | rfl))) | (exfalso; omega)
    ·
      refine hp_s (pc' := 71) (st' := [.ref 57]) rfl rfl rfl ?_
      refine hp_getr (k := 2) (w := .ref 59) (pc' := 74) rfl rfl rfl rfl rfl ?_
      refine hp_s (pc' := 75) (st' := [.ref 57, .ref 59]) rfl rfl rfl ?_
      refine hp_get (k := 3) (pc' := 78) (v := (rI p 57 3)) rfl rfl rfl rfl rfl rfl ?_
      refine hp_s (pc' := 80) (st' := [.int 1, .int (rI p 57 3), .ref 59]) rfl rfl rfl ?_
      refine hp_st (t := 100) rfl (.inl rfl) rfl rfl ?_
      intro p3 wp3 (p3a : 0 ≤ (rI p 57 3).toInt) (p3b : (rI p 57 3).toInt < 24) ep3
      refine hp_s (pc' := 82) (st' := [.ref 57]) rfl rfl rfl ?_
      refine hp_s (pc' := 83) (st' := [.ref 57, .ref 57]) rfl rfl rfl ?_
      refine hp_get (k := 3) (pc' := 86) (v := (rI p 57 3)) rfl rfl rfl rfl rfl (by rw [ep3, rI_o (by decide)]) ?_
      refine hp_s (pc' := 87) (st' := [.int 1, .int (rI p 57 3), .ref 57]) rfl rfl rfl ?_
      refine hp_z (pc' := 88) (e := (rI p 57 3) + 1) (st' := [.ref 57]) rfl rfl rfl ?_
      intro z7 hz7
      have ez7 := i_add hz7 (show (rI p 57 3).toInt = (rI p 57 3).toInt from rfl) (show (1 : Int32).toInt = 1 from by decide)
      refine hp_put (k := 3) (pc' := 91) rfl rfl rfl rfl rfl ?_
      intro p4 wp4 ep4
      have eB : p4 = hB1 p 1 := (by subst_vars; unfold hB1; first | rw [if_pos (by omega)] | rw [if_neg (by omega)])
      refine hp_s (pc' := 92) (st' := [.ref 57]) rfl rfl rfl ?_
      refine hp_s (pc' := 94) (st' := [.int 1, .ref 57]) rfl rfl rfl ?_
      refine hp_s (pc' := 95) (st' := [.int x, .int 1, .ref 57]) rfl rfl rfl ?_
      refine hp_s (pc' := 97) (st' := [.int v, .int x, .int 1, .ref 57]) rfl rfl rfl ?_
      refine hp_s (pc' := 98) (st' := [.int 1, .int v, .int x, .int 1, .ref 57]) rfl rfl rfl ?_
      refine hp_z (pc' := 99) (e := v + 1) (st' := [.int x, .int 1, .ref 57]) rfl rfl rfl ?_
      intro z8 hz8
      have ez8 := i_add hz8 (show v.toInt = v.toInt from rfl) (show (1 : Int32).toInt = 1 from by decide)
      refine hp_cv (r := 57) (o := 9) (kd := 1) (as := [.int 1, .int x, .int z8]) (rest := []) (pc' := 102) rfl rfl rfl rfl rfl rfl rfl rfl rfl (fun d2 => ?_)
      refine s_run1 hro (xi := x.toInt) rfl (vi := z8.toInt) rfl (by first | with_reducible assumption | omega | (rw [eB]; exact hKi_1 pre2) | (subst_vars; with_reducible (repeat (first | assumption | apply hKi_g)))) (by first | with_reducible assumption | omega | (rw [eB]; exact hKi_1 pre2) | (subst_vars; with_reducible (repeat (first | assumption | apply hKi_g)))) (by first | with_reducible assumption | omega | (rw [eB]; exact hKi_1 pre2) | (subst_vars; with_reducible (repeat (first | assumption | apply hKi_g)))) ?_
      intro y2 p5 h7 h8
      have qz := h7
      have qp := h8
      refine hp_id (st := [.int y2]) ?_
      refine hp_ri rfl rfl ?_
      first | (exact k0 _ _ (by first | (rw [qz, eB]; first | (rw [gO_1, gA_1]; rfl) | (rw [gA_1]; rfl) | rfl) | (rw [qp, eB]; first | (rw [gO_1]; rfl) | rfl)) (by first | (rw [qz, eB]; first | (rw [gO_1, gA_1]; rfl) | (rw [gA_1]; rfl) | rfl) | (rw [qp, eB]; first | (rw [gO_1]; rfl) | rfl))) | (exfalso; omega)
  ·
    refine hp_s (pc' := 8) (st' := [.int 0]) rfl rfl rfl ?_
    refine hp_ri rfl rfl ?_
    first | (exact k0 _ _ (by first | (rw [qz, eB]; first | (rw [gO_1, gA_1]; rfl) | (rw [gA_1]; rfl) | rfl) | (rw [qp, eB]; first | (rw [gO_1]; rfl) | rfl)) (by first | (rw [qz, eB]; first | (rw [gO_1, gA_1]; rfl) | (rw [gA_1]; rfl) | rfl) | (rw [qp, eB]; first | (rw [gO_1]; rfl) | rfl))) | (exfalso; omega)
theorem s_run20 {ro : List (List Int32)} {n d : Nat} {p : xH} {Q : Option Value → xH → Prop} {x : Int32} {xi : Int} {v : Int32} {vi : Int} (hro : jro ro) (hx : x.toInt = xi) (hv : v.toInt = vi) (pre0 : 0 ≤ vi) (pre1 : vi ≤ 40) (pre2 : hKi p) (k0 : ∀ z : Int32, ∀ p2 : xH, (z = aL 0 (gA p) x + 3) → (p2 = hBg p (nL 0)) → Q (some (.int z)) p2) : hP ro n d (9, 7, 1, 1, k116) 0 (lv_args 0 [.ref 57, .int 20, .int x, .int v]) [] p Q := by
  subst hx
  subst hv
  refine hp_id (ls := [(0, .ref 57), (1, .int 20), (2, .int x), (3, .int v)]) ?_
  refine hp_s (pc' := 1) (st' := [.int 20]) rfl rfl rfl ?_
  refine hp_go (pc' := 160) rfl rfl rfl ?_
  refine hp_s (pc' := 161) (st' := [.ref 57]) rfl rfl rfl ?_
  refine hp_s (pc' := 162) (st' := [.int 0, .ref 57]) rfl rfl rfl ?_
  refine hp_s (pc' := 163) (st' := [.int 0, .int 0, .ref 57]) rfl rfl rfl ?_
  refine hp_s (pc' := 164) (st' := [.int x, .int 0, .int 0, .ref 57]) rfl rfl rfl ?_
  refine hp_s (pc' := 165) (st' := [.int v, .int x, .int 0, .int 0, .ref 57]) rfl rfl rfl ?_
  refine hp_cv (r := 57) (o := 9) (kd := 1) (as := [.int 0, .int 0, .int x, .int v]) (rest := []) (pc' := 168) rfl rfl rfl rfl rfl rfl rfl rfl rfl (fun d1 => ?_)
  refine s_from0_0 hro (xi := x.toInt) rfl (vi := v.toInt) rfl (by first | with_reducible assumption | omega | (rw [eB]; exact hKi_1 pre2) | (subst_vars; with_reducible (repeat (first | assumption | apply hKi_g)))) (by first | with_reducible assumption | omega | (rw [eB]; exact hKi_1 pre2) | (subst_vars; with_reducible (repeat (first | assumption | apply hKi_g)))) (by first | with_reducible assumption | omega | (rw [eB]; exact hKi_1 pre2) | (subst_vars; with_reducible (repeat (first | assumption | apply hKi_g)))) ?_
  intro y1 p1 h1 h2
  refine hp_id (st := [.int y1]) ?_
  refine hp_s (pc' := 169) (st' := [.int 3, .int y1]) rfl rfl rfl ?_
  refine hp_z (pc' := 170) (e := y1 + 3) (st' := []) rfl rfl rfl ?_
  intro z1 hz1
  have ez1 := i_add hz1 (show y1.toInt = y1.toInt from rfl) (show (3 : Int32).toInt = 3 from by decide)
  refine hp_ri rfl rfl ?_
  first | (exact k0 _ _ (by first | assumption | (subst_vars; first | rfl | (simp only [gO_g, gA_g, hBg_app]; done) | (simp only [gO_g, gA_g, hBg_app]; rfl))) (by first | assumption | (subst_vars; first | rfl | (simp only [gO_g, gA_g, hBg_app]; done) | (simp only [gO_g, gA_g, hBg_app]; rfl)))) | (exfalso; omega)
theorem s_from1_0 {ro : List (List Int32)} {n d : Nat} {p : xH} {Q : Option Value → xH → Prop} {x : Int32} {xi : Int} {v : Int32} {vi : Int} (hro : jro ro) (hx : x.toInt = xi) (hv : v.toInt = vi) (pre0 : 0 ≤ vi) (pre1 : vi ≤ 39) (pre2 : hKi p) (k0 : ∀ z : Int32, ∀ p2 : xH, (z = aL 1 (gA p) x) → (p2 = hBg p (nL 1)) → Q (some (.int z)) p2) : hP ro n d (9, 7, 1, 1, k115) 0 (lv_args 0 [.ref 57, .int 1, .int 0, .int x, .int v]) [] p Q := by
  subst hx
  subst hv
  refine hp_id (ls := [(0, .ref 57), (1, .int 1), (2, .int 0), (3, .int x), (4, .int v)]) ?_
  refine hp_s (pc' := 2) (st' := [.int v]) rfl rfl rfl ?_
  refine hp_s (pc' := 4) (st' := [.int 40, .int v]) rfl rfl rfl ?_
  refine hp_ic (pc' := 7) (t := 9) (a := v.toInt) (b := 40) rfl rfl rfl rfl (by decide) (fun (h1 : v.toInt ≤ 40) => ?_) (fun (h2 : ¬ (v.toInt ≤ 40)) => ?_)
  ·
    refine hp_s (pc' := 10) (st' := [.int 1]) rfl rfl rfl ?_
    refine hp_s (pc' := 12) (ls' := [(5, .int 1), (0, .ref 57), (1, .int 1), (2, .int 0), (3, .int x), (4, .int v)]) (st' := []) rfl rfl rfl ?_
    refine hp_s (pc' := 13) (st' := [.int 0]) rfl rfl rfl ?_
    refine hp_s (pc' := 15) (ls' := [(6, .int 0), (5, .int 1), (0, .ref 57), (1, .int 1), (2, .int 0), (3, .int x), (4, .int v)]) (st' := []) rfl rfl rfl ?_
    refine hp_s (pc' := 17) (st' := [.int 0]) rfl rfl rfl ?_
    refine hp_s (pc' := 19) (st' := [.int 8, .int 0]) rfl rfl rfl ?_
    refine hp_go (pc' := 22) rfl rfl rfl ?_
    refine hp_sta (k := 2) (pc' := 25) rfl rfl rfl ?_
    refine hp_s (pc' := 27) (st' := [.int 1, .retAddr 2]) rfl rfl rfl ?_
    refine hp_s (pc' := 28) (st' := [.int 4, .int 1, .retAddr 2]) rfl rfl rfl ?_
    refine hp_s (pc' := 29) (st' := [.int 4, .retAddr 2]) rfl rfl rfl ?_
    refine hp_s (pc' := 30) (st' := [.int 0, .int 4, .retAddr 2]) rfl rfl rfl ?_
    refine hp_s (pc' := 31) (st' := [.int 4, .retAddr 2]) rfl rfl rfl ?_
    refine hp_lds (v := 20) hro.2 rfl rfl (by decide +kernel) ?_
    intro g1a g1b
    refine hp_go (pc' := 49) rfl rfl rfl ?_
    refine hp_sta (k := 2) (pc' := 52) rfl rfl rfl ?_
    refine hp_s (pc' := 54) (st' := [.int 1, .retAddr 2]) rfl rfl rfl ?_
    refine hp_s (pc' := 55) (st' := [.int 4, .int 1, .retAddr 2]) rfl rfl rfl ?_
    refine hp_s (pc' := 56) (st' := [.int 4, .retAddr 2]) rfl rfl rfl ?_
    refine hp_s (pc' := 57) (st' := [.int 0, .int 4, .retAddr 2]) rfl rfl rfl ?_
    refine hp_s (pc' := 58) (st' := [.int 4, .retAddr 2]) rfl rfl rfl ?_
    refine hp_lds (v := 20) hro.2 rfl rfl (by decide +kernel) ?_
    intro g2a g2b
    refine hp_s (pc' := 61) (ls' := [(6, .int 20), (5, .int 1), (0, .ref 57), (1, .int 1), (2, .int 0), (3, .int x), (4, .int v)]) (st' := []) rfl rfl rfl ?_
    refine hp_s (pc' := 62) (st' := [.ref 57]) rfl rfl rfl ?_
    refine hp_get (k := 3) (pc' := 65) (v := (rI p 57 3)) rfl rfl rfl rfl rfl rfl ?_
    refine hp_s (pc' := 67) (st' := [.int 24, .int (rI p 57 3)]) rfl rfl rfl ?_
    refine hp_ic (pc' := 70) (t := 81) (a := (rI p 57 3).toInt) (b := 24) rfl rfl rfl rfl (by decide) (fun (h3 : 24 ≤ (rI p 57 3).toInt) => ?_) (fun (h4 : ¬ (24 ≤ (rI p 57 3).toInt)) => ?_)
    ·
      refine hp_s (pc' := 82) (st' := [.ref 57]) rfl rfl rfl ?_
      refine hp_s (pc' := 83) (st' := [.ref 57, .ref 57]) rfl rfl rfl ?_
      refine hp_get (k := 3) (pc' := 86) (v := (rI p 57 3)) rfl rfl rfl rfl rfl rfl ?_
      refine hp_s (pc' := 87) (st' := [.int 1, .int (rI p 57 3), .ref 57]) rfl rfl rfl ?_
      refine hp_z (pc' := 88) (e := (rI p 57 3) + 1) (st' := [.ref 57]) rfl rfl rfl ?_
      intro z5 hz5
      have ez5 := i_add hz5 (show (rI p 57 3).toInt = (rI p 57 3).toInt from rfl) (show (1 : Int32).toInt = 1 from by decide)
      refine hp_put (k := 3) (pc' := 91) rfl rfl rfl rfl rfl ?_
      intro p1 wp1 ep1
      have eB : p1 = hB1 p 20 := (by subst_vars; unfold hB1; first | rw [if_pos (by omega)] | rw [if_neg (by omega)])
      refine hp_s (pc' := 92) (st' := [.ref 57]) rfl rfl rfl ?_
      refine hp_s (pc' := 94) (st' := [.int 20, .ref 57]) rfl rfl rfl ?_
      refine hp_s (pc' := 95) (st' := [.int x, .int 20, .ref 57]) rfl rfl rfl ?_
      refine hp_s (pc' := 97) (st' := [.int v, .int x, .int 20, .ref 57]) rfl rfl rfl ?_
      refine hp_s (pc' := 98) (st' := [.int 1, .int v, .int x, .int 20, .ref 57]) rfl rfl rfl ?_
      refine hp_z (pc' := 99) (e := v + 1) (st' := [.int x, .int 20, .ref 57]) rfl rfl rfl ?_
      intro z6 hz6
      have ez6 := i_add hz6 (show v.toInt = v.toInt from rfl) (show (1 : Int32).toInt = 1 from by decide)
      refine hp_cv (r := 57) (o := 9) (kd := 1) (as := [.int 20, .int x, .int z6]) (rest := []) (pc' := 102) rfl rfl rfl rfl rfl rfl rfl rfl rfl (fun d1 => ?_)
      refine s_run20 hro (xi := x.toInt) rfl (vi := z6.toInt) rfl (by first | with_reducible assumption | omega | (rw [eB]; exact hKi_1 pre2) | (subst_vars; with_reducible (repeat (first | assumption | apply hKi_g)))) (by first | with_reducible assumption | omega | (rw [eB]; exact hKi_1 pre2) | (subst_vars; with_reducible (repeat (first | assumption | apply hKi_g)))) (by first | with_reducible assumption | omega | (rw [eB]; exact hKi_1 pre2) | (subst_vars; with_reducible (repeat (first | assumption | apply hKi_g)))) ?_
      intro y1 p2 h5 h6
      have qz := h5
      have qp := h6
      refine hp_id (st := [.int y1]) ?_
      refine hp_ri rfl rfl ?_
      first | (exact k0 _ _ (by first | (rw [qz, eB]; first | (rw [gO_1, gA_1]; rfl) | (rw [gA_1]; rfl) | rfl) | (rw [qp, eB]; first | (rw [gO_1]; rfl) | rfl)) (by first | (rw [qz, eB]; first | (rw [gO_1, gA_1]; rfl) | (rw [gA_1]; rfl) | rfl) | (rw [qp, eB]; first | (rw [gO_1]; rfl) | rfl))) | (exfalso; omega)
    ·
      refine hp_s (pc' := 71) (st' := [.ref 57]) rfl rfl rfl ?_
      refine hp_getr (k := 2) (w := .ref 59) (pc' := 74) rfl rfl rfl rfl rfl ?_
      refine hp_s (pc' := 75) (st' := [.ref 57, .ref 59]) rfl rfl rfl ?_
      refine hp_get (k := 3) (pc' := 78) (v := (rI p 57 3)) rfl rfl rfl rfl rfl rfl ?_
      refine hp_s (pc' := 80) (st' := [.int 20, .int (rI p 57 3), .ref 59]) rfl rfl rfl ?_
      refine hp_st (t := 100) rfl (.inl rfl) rfl rfl ?_
      intro p3 wp3 (p3a : 0 ≤ (rI p 57 3).toInt) (p3b : (rI p 57 3).toInt < 24) ep3
      refine hp_s (pc' := 82) (st' := [.ref 57]) rfl rfl rfl ?_
      refine hp_s (pc' := 83) (st' := [.ref 57, .ref 57]) rfl rfl rfl ?_
      refine hp_get (k := 3) (pc' := 86) (v := (rI p 57 3)) rfl rfl rfl rfl rfl (by rw [ep3, rI_o (by decide)]) ?_
      refine hp_s (pc' := 87) (st' := [.int 1, .int (rI p 57 3), .ref 57]) rfl rfl rfl ?_
      refine hp_z (pc' := 88) (e := (rI p 57 3) + 1) (st' := [.ref 57]) rfl rfl rfl ?_
      intro z7 hz7
      have ez7 := i_add hz7 (show (rI p 57 3).toInt = (rI p 57 3).toInt from rfl) (show (1 : Int32).toInt = 1 from by decide)
      refine hp_put (k := 3) (pc' := 91) rfl rfl rfl rfl rfl ?_
      intro p4 wp4 ep4
      have eB : p4 = hB1 p 20 := (by subst_vars; unfold hB1; first | rw [if_pos (by omega)] | rw [if_neg (by omega)])
      refine hp_s (pc' := 92) (st' := [.ref 57]) rfl rfl rfl ?_
      refine hp_s (pc' := 94) (st' := [.int 20, .ref 57]) rfl rfl rfl ?_
      refine hp_s (pc' := 95) (st' := [.int x, .int 20, .ref 57]) rfl rfl rfl ?_
      refine hp_s (pc' := 97) (st' := [.int v, .int x, .int 20, .ref 57]) rfl rfl rfl ?_
      refine hp_s (pc' := 98) (st' := [.int 1, .int v, .int x, .int 20, .ref 57]) rfl rfl rfl ?_
      refine hp_z (pc' := 99) (e := v + 1) (st' := [.int x, .int 20, .ref 57]) rfl rfl rfl ?_
      intro z8 hz8
      have ez8 := i_add hz8 (show v.toInt = v.toInt from rfl) (show (1 : Int32).toInt = 1 from by decide)
      refine hp_cv (r := 57) (o := 9) (kd := 1) (as := [.int 20, .int x, .int z8]) (rest := []) (pc' := 102) rfl rfl rfl rfl rfl rfl rfl rfl rfl (fun d2 => ?_)
      refine s_run20 hro (xi := x.toInt) rfl (vi := z8.toInt) rfl (by first | with_reducible assumption | omega | (rw [eB]; exact hKi_1 pre2) | (subst_vars; with_reducible (repeat (first | assumption | apply hKi_g)))) (by first | with_reducible assumption | omega | (rw [eB]; exact hKi_1 pre2) | (subst_vars; with_reducible (repeat (first | assumption | apply hKi_g)))) (by first | with_reducible assumption | omega | (rw [eB]; exact hKi_1 pre2) | (subst_vars; with_reducible (repeat (first | assumption | apply hKi_g)))) ?_
      intro y2 p5 h7 h8
      have qz := h7
      have qp := h8
      refine hp_id (st := [.int y2]) ?_
      refine hp_ri rfl rfl ?_
      first | (exact k0 _ _ (by first | (rw [qz, eB]; first | (rw [gO_1, gA_1]; rfl) | (rw [gA_1]; rfl) | rfl) | (rw [qp, eB]; first | (rw [gO_1]; rfl) | rfl)) (by first | (rw [qz, eB]; first | (rw [gO_1, gA_1]; rfl) | (rw [gA_1]; rfl) | rfl) | (rw [qp, eB]; first | (rw [gO_1]; rfl) | rfl))) | (exfalso; omega)
  ·
    refine hp_s (pc' := 8) (st' := [.int 0]) rfl rfl rfl ?_
    refine hp_ri rfl rfl ?_
    first | (exact k0 _ _ (by first | (rw [qz, eB]; first | (rw [gO_1, gA_1]; rfl) | (rw [gA_1]; rfl) | rfl) | (rw [qp, eB]; first | (rw [gO_1]; rfl) | rfl)) (by first | (rw [qz, eB]; first | (rw [gO_1, gA_1]; rfl) | (rw [gA_1]; rfl) | rfl) | (rw [qp, eB]; first | (rw [gO_1]; rfl) | rfl))) | (exfalso; omega)
theorem s_from2_0 {ro : List (List Int32)} {n d : Nat} {p : xH} {Q : Option Value → xH → Prop} {x : Int32} {xi : Int} {v : Int32} {vi : Int} (hro : jro ro) (hx : x.toInt = xi) (hv : v.toInt = vi) (pre0 : 0 ≤ vi) (pre1 : vi ≤ 40) (pre2 : hKi p) (k0 : ∀ z : Int32, ∀ p2 : xH, (z = aL 2 (gA p) x) → (p2 = hBg p (nL 2)) → Q (some (.int z)) p2) : hP ro n d (9, 7, 1, 1, k115) 0 (lv_args 0 [.ref 57, .int 2, .int 0, .int x, .int v]) [] p Q := by
  subst hx
  subst hv
  refine hp_id (ls := [(0, .ref 57), (1, .int 2), (2, .int 0), (3, .int x), (4, .int v)]) ?_
  refine hp_s (pc' := 2) (st' := [.int v]) rfl rfl rfl ?_
  refine hp_s (pc' := 4) (st' := [.int 40, .int v]) rfl rfl rfl ?_
  refine hp_ic (pc' := 7) (t := 9) (a := v.toInt) (b := 40) rfl rfl rfl rfl (by decide) (fun (h1 : v.toInt ≤ 40) => ?_) (fun (h2 : ¬ (v.toInt ≤ 40)) => ?_)
  ·
    refine hp_s (pc' := 10) (st' := [.int 2]) rfl rfl rfl ?_
    refine hp_s (pc' := 12) (ls' := [(5, .int 2), (0, .ref 57), (1, .int 2), (2, .int 0), (3, .int x), (4, .int v)]) (st' := []) rfl rfl rfl ?_
    refine hp_s (pc' := 13) (st' := [.int 0]) rfl rfl rfl ?_
    refine hp_s (pc' := 15) (ls' := [(6, .int 0), (5, .int 2), (0, .ref 57), (1, .int 2), (2, .int 0), (3, .int x), (4, .int v)]) (st' := []) rfl rfl rfl ?_
    refine hp_s (pc' := 17) (st' := [.int 0]) rfl rfl rfl ?_
    refine hp_s (pc' := 19) (st' := [.int 8, .int 0]) rfl rfl rfl ?_
    refine hp_go (pc' := 22) rfl rfl rfl ?_
    refine hp_sta (k := 2) (pc' := 25) rfl rfl rfl ?_
    refine hp_s (pc' := 27) (st' := [.int 2, .retAddr 2]) rfl rfl rfl ?_
    refine hp_s (pc' := 28) (st' := [.int 4, .int 2, .retAddr 2]) rfl rfl rfl ?_
    refine hp_s (pc' := 29) (st' := [.int 8, .retAddr 2]) rfl rfl rfl ?_
    refine hp_s (pc' := 30) (st' := [.int 0, .int 8, .retAddr 2]) rfl rfl rfl ?_
    refine hp_s (pc' := 31) (st' := [.int 8, .retAddr 2]) rfl rfl rfl ?_
    refine hp_lds (v := 0) hro.2 rfl rfl (by decide +kernel) ?_
    intro g1a g1b
    refine hp_go (pc' := 35) rfl rfl rfl ?_
    refine hp_sta (k := 1) (pc' := 38) rfl rfl rfl ?_
    refine hp_s (pc' := 40) (st' := [.int 2, .retAddr 1]) rfl rfl rfl ?_
    refine hp_lds (v := 0) hro.1 rfl rfl (by decide +kernel) ?_
    intro g2a g2b
    refine hp_s (pc' := 43) (ls' := [(5, .int 0), (6, .int 0), (0, .ref 57), (1, .int 2), (2, .int 0), (3, .int x), (4, .int v)]) (st' := []) rfl rfl rfl ?_
    refine hp_s (pc' := 46) (ls' := [(6, .int 1), (5, .int 0), (0, .ref 57), (1, .int 2), (2, .int 0), (3, .int x), (4, .int v)]) (st' := []) rfl rfl rfl ?_
    refine hp_go (pc' := 15) rfl rfl rfl ?_
    refine hp_s (pc' := 17) (st' := [.int 1]) rfl rfl rfl ?_
    refine hp_s (pc' := 19) (st' := [.int 8, .int 1]) rfl rfl rfl ?_
    refine hp_go (pc' := 22) rfl rfl rfl ?_
    refine hp_sta (k := 2) (pc' := 25) rfl rfl rfl ?_
    refine hp_s (pc' := 27) (st' := [.int 0, .retAddr 2]) rfl rfl rfl ?_
    refine hp_s (pc' := 28) (st' := [.int 4, .int 0, .retAddr 2]) rfl rfl rfl ?_
    refine hp_s (pc' := 29) (st' := [.int 0, .retAddr 2]) rfl rfl rfl ?_
    refine hp_s (pc' := 30) (st' := [.int 0, .int 0, .retAddr 2]) rfl rfl rfl ?_
    refine hp_s (pc' := 31) (st' := [.int 0, .retAddr 2]) rfl rfl rfl ?_
    refine hp_lds (v := 1) hro.2 rfl rfl (by decide +kernel) ?_
    intro g3a g3b
    refine hp_go (pc' := 49) rfl rfl rfl ?_
    refine hp_sta (k := 2) (pc' := 52) rfl rfl rfl ?_
    refine hp_s (pc' := 54) (st' := [.int 0, .retAddr 2]) rfl rfl rfl ?_
    refine hp_s (pc' := 55) (st' := [.int 4, .int 0, .retAddr 2]) rfl rfl rfl ?_
    refine hp_s (pc' := 56) (st' := [.int 0, .retAddr 2]) rfl rfl rfl ?_
    refine hp_s (pc' := 57) (st' := [.int 0, .int 0, .retAddr 2]) rfl rfl rfl ?_
    refine hp_s (pc' := 58) (st' := [.int 0, .retAddr 2]) rfl rfl rfl ?_
    refine hp_lds (v := 1) hro.2 rfl rfl (by decide +kernel) ?_
    intro g4a g4b
    refine hp_s (pc' := 61) (ls' := [(6, .int 1), (5, .int 0), (0, .ref 57), (1, .int 2), (2, .int 0), (3, .int x), (4, .int v)]) (st' := []) rfl rfl rfl ?_
    refine hp_s (pc' := 62) (st' := [.ref 57]) rfl rfl rfl ?_
    refine hp_get (k := 3) (pc' := 65) (v := (rI p 57 3)) rfl rfl rfl rfl rfl rfl ?_
    refine hp_s (pc' := 67) (st' := [.int 24, .int (rI p 57 3)]) rfl rfl rfl ?_
    refine hp_ic (pc' := 70) (t := 81) (a := (rI p 57 3).toInt) (b := 24) rfl rfl rfl rfl (by decide) (fun (h3 : 24 ≤ (rI p 57 3).toInt) => ?_) (fun (h4 : ¬ (24 ≤ (rI p 57 3).toInt)) => ?_)
    ·
      refine hp_s (pc' := 82) (st' := [.ref 57]) rfl rfl rfl ?_
      refine hp_s (pc' := 83) (st' := [.ref 57, .ref 57]) rfl rfl rfl ?_
      refine hp_get (k := 3) (pc' := 86) (v := (rI p 57 3)) rfl rfl rfl rfl rfl rfl ?_
      refine hp_s (pc' := 87) (st' := [.int 1, .int (rI p 57 3), .ref 57]) rfl rfl rfl ?_
      refine hp_z (pc' := 88) (e := (rI p 57 3) + 1) (st' := [.ref 57]) rfl rfl rfl ?_
      intro z8 hz8
      have ez8 := i_add hz8 (show (rI p 57 3).toInt = (rI p 57 3).toInt from rfl) (show (1 : Int32).toInt = 1 from by decide)
      refine hp_put (k := 3) (pc' := 91) rfl rfl rfl rfl rfl ?_
      intro p1 wp1 ep1
      have eB : p1 = hB1 p 1 := (by subst_vars; unfold hB1; first | rw [if_pos (by omega)] | rw [if_neg (by omega)])
      refine hp_s (pc' := 92) (st' := [.ref 57]) rfl rfl rfl ?_
      refine hp_s (pc' := 94) (st' := [.int 1, .ref 57]) rfl rfl rfl ?_
      refine hp_s (pc' := 95) (st' := [.int x, .int 1, .ref 57]) rfl rfl rfl ?_
      refine hp_s (pc' := 97) (st' := [.int v, .int x, .int 1, .ref 57]) rfl rfl rfl ?_
      refine hp_s (pc' := 98) (st' := [.int 1, .int v, .int x, .int 1, .ref 57]) rfl rfl rfl ?_
      refine hp_z (pc' := 99) (e := v + 1) (st' := [.int x, .int 1, .ref 57]) rfl rfl rfl ?_
      intro z9 hz9
      have ez9 := i_add hz9 (show v.toInt = v.toInt from rfl) (show (1 : Int32).toInt = 1 from by decide)
      refine hp_cv (r := 57) (o := 9) (kd := 1) (as := [.int 1, .int x, .int z9]) (rest := []) (pc' := 102) rfl rfl rfl rfl rfl rfl rfl rfl rfl (fun d1 => ?_)
      refine s_run1 hro (xi := x.toInt) rfl (vi := z9.toInt) rfl (by first | with_reducible assumption | omega | (rw [eB]; exact hKi_1 pre2) | (subst_vars; with_reducible (repeat (first | assumption | apply hKi_g)))) (by first | with_reducible assumption | omega | (rw [eB]; exact hKi_1 pre2) | (subst_vars; with_reducible (repeat (first | assumption | apply hKi_g)))) (by first | with_reducible assumption | omega | (rw [eB]; exact hKi_1 pre2) | (subst_vars; with_reducible (repeat (first | assumption | apply hKi_g)))) ?_
      intro y1 p2 h5 h6
      have qz := h5
      have qp := h6
      refine hp_id (st := [.int y1]) ?_
      refine hp_ri rfl rfl ?_
      first | (exact k0 _ _ (by first | (rw [qz, eB]; first | (rw [gO_1, gA_1]; rfl) | (rw [gA_1]; rfl) | rfl) | (rw [qp, eB]; first | (rw [gO_1]; rfl) | rfl)) (by first | (rw [qz, eB]; first | (rw [gO_1, gA_1]; rfl) | (rw [gA_1]; rfl) | rfl) | (rw [qp, eB]; first | (rw [gO_1]; rfl) | rfl))) | (exfalso; omega)
    ·
      refine hp_s (pc' := 71) (st' := [.ref 57]) rfl rfl rfl ?_
      refine hp_getr (k := 2) (w := .ref 59) (pc' := 74) rfl rfl rfl rfl rfl ?_
      refine hp_s (pc' := 75) (st' := [.ref 57, .ref 59]) rfl rfl rfl ?_
      refine hp_get (k := 3) (pc' := 78) (v := (rI p 57 3)) rfl rfl rfl rfl rfl rfl ?_
      refine hp_s (pc' := 80) (st' := [.int 1, .int (rI p 57 3), .ref 59]) rfl rfl rfl ?_
      refine hp_st (t := 100) rfl (.inl rfl) rfl rfl ?_
      intro p3 wp3 (p3a : 0 ≤ (rI p 57 3).toInt) (p3b : (rI p 57 3).toInt < 24) ep3
      refine hp_s (pc' := 82) (st' := [.ref 57]) rfl rfl rfl ?_
      refine hp_s (pc' := 83) (st' := [.ref 57, .ref 57]) rfl rfl rfl ?_
      refine hp_get (k := 3) (pc' := 86) (v := (rI p 57 3)) rfl rfl rfl rfl rfl (by rw [ep3, rI_o (by decide)]) ?_
      refine hp_s (pc' := 87) (st' := [.int 1, .int (rI p 57 3), .ref 57]) rfl rfl rfl ?_
      refine hp_z (pc' := 88) (e := (rI p 57 3) + 1) (st' := [.ref 57]) rfl rfl rfl ?_
      intro z10 hz10
      have ez10 := i_add hz10 (show (rI p 57 3).toInt = (rI p 57 3).toInt from rfl) (show (1 : Int32).toInt = 1 from by decide)
      refine hp_put (k := 3) (pc' := 91) rfl rfl rfl rfl rfl ?_
      intro p4 wp4 ep4
      have eB : p4 = hB1 p 1 := (by subst_vars; unfold hB1; first | rw [if_pos (by omega)] | rw [if_neg (by omega)])
      refine hp_s (pc' := 92) (st' := [.ref 57]) rfl rfl rfl ?_
      refine hp_s (pc' := 94) (st' := [.int 1, .ref 57]) rfl rfl rfl ?_
      refine hp_s (pc' := 95) (st' := [.int x, .int 1, .ref 57]) rfl rfl rfl ?_
      refine hp_s (pc' := 97) (st' := [.int v, .int x, .int 1, .ref 57]) rfl rfl rfl ?_
      refine hp_s (pc' := 98) (st' := [.int 1, .int v, .int x, .int 1, .ref 57]) rfl rfl rfl ?_
      refine hp_z (pc' := 99) (e := v + 1) (st' := [.int x, .int 1, .ref 57]) rfl rfl rfl ?_
      intro z11 hz11
      have ez11 := i_add hz11 (show v.toInt = v.toInt from rfl) (show (1 : Int32).toInt = 1 from by decide)
      refine hp_cv (r := 57) (o := 9) (kd := 1) (as := [.int 1, .int x, .int z11]) (rest := []) (pc' := 102) rfl rfl rfl rfl rfl rfl rfl rfl rfl (fun d2 => ?_)
      refine s_run1 hro (xi := x.toInt) rfl (vi := z11.toInt) rfl (by first | with_reducible assumption | omega | (rw [eB]; exact hKi_1 pre2) | (subst_vars; with_reducible (repeat (first | assumption | apply hKi_g)))) (by first | with_reducible assumption | omega | (rw [eB]; exact hKi_1 pre2) | (subst_vars; with_reducible (repeat (first | assumption | apply hKi_g)))) (by first | with_reducible assumption | omega | (rw [eB]; exact hKi_1 pre2) | (subst_vars; with_reducible (repeat (first | assumption | apply hKi_g)))) ?_
      intro y2 p5 h7 h8
      have qz := h7
      have qp := h8
      refine hp_id (st := [.int y2]) ?_
      refine hp_ri rfl rfl ?_
      first | (exact k0 _ _ (by first | (rw [qz, eB]; first | (rw [gO_1, gA_1]; rfl) | (rw [gA_1]; rfl) | rfl) | (rw [qp, eB]; first | (rw [gO_1]; rfl) | rfl)) (by first | (rw [qz, eB]; first | (rw [gO_1, gA_1]; rfl) | (rw [gA_1]; rfl) | rfl) | (rw [qp, eB]; first | (rw [gO_1]; rfl) | rfl))) | (exfalso; omega)
  ·
    refine hp_s (pc' := 8) (st' := [.int 0]) rfl rfl rfl ?_
    refine hp_ri rfl rfl ?_
    first | (exact k0 _ _ (by first | (rw [qz, eB]; first | (rw [gO_1, gA_1]; rfl) | (rw [gA_1]; rfl) | rfl) | (rw [qp, eB]; first | (rw [gO_1]; rfl) | rfl)) (by first | (rw [qz, eB]; first | (rw [gO_1, gA_1]; rfl) | (rw [gA_1]; rfl) | rfl) | (rw [qp, eB]; first | (rw [gO_1]; rfl) | rfl))) | (exfalso; omega)
theorem s_from3_0 {ro : List (List Int32)} {n d : Nat} {p : xH} {Q : Option Value → xH → Prop} {x : Int32} {xi : Int} {v : Int32} {vi : Int} (hro : jro ro) (hx : x.toInt = xi) (hv : v.toInt = vi) (pre0 : 0 ≤ vi) (pre1 : vi ≤ 40) (pre2 : hKi p) (k0 : ∀ z : Int32, ∀ p2 : xH, (z = aL 3 (gA p) x) → (p2 = hBg p (nL 3)) → Q (some (.int z)) p2) : hP ro n d (9, 7, 1, 1, k115) 0 (lv_args 0 [.ref 57, .int 3, .int 0, .int x, .int v]) [] p Q := by
  subst hx
  subst hv
  refine hp_id (ls := [(0, .ref 57), (1, .int 3), (2, .int 0), (3, .int x), (4, .int v)]) ?_
  refine hp_s (pc' := 2) (st' := [.int v]) rfl rfl rfl ?_
  refine hp_s (pc' := 4) (st' := [.int 40, .int v]) rfl rfl rfl ?_
  refine hp_ic (pc' := 7) (t := 9) (a := v.toInt) (b := 40) rfl rfl rfl rfl (by decide) (fun (h1 : v.toInt ≤ 40) => ?_) (fun (h2 : ¬ (v.toInt ≤ 40)) => ?_)
  ·
    refine hp_s (pc' := 10) (st' := [.int 3]) rfl rfl rfl ?_
    refine hp_s (pc' := 12) (ls' := [(5, .int 3), (0, .ref 57), (1, .int 3), (2, .int 0), (3, .int x), (4, .int v)]) (st' := []) rfl rfl rfl ?_
    refine hp_s (pc' := 13) (st' := [.int 0]) rfl rfl rfl ?_
    refine hp_s (pc' := 15) (ls' := [(6, .int 0), (5, .int 3), (0, .ref 57), (1, .int 3), (2, .int 0), (3, .int x), (4, .int v)]) (st' := []) rfl rfl rfl ?_
    refine hp_s (pc' := 17) (st' := [.int 0]) rfl rfl rfl ?_
    refine hp_s (pc' := 19) (st' := [.int 8, .int 0]) rfl rfl rfl ?_
    refine hp_go (pc' := 22) rfl rfl rfl ?_
    refine hp_sta (k := 2) (pc' := 25) rfl rfl rfl ?_
    refine hp_s (pc' := 27) (st' := [.int 3, .retAddr 2]) rfl rfl rfl ?_
    refine hp_s (pc' := 28) (st' := [.int 4, .int 3, .retAddr 2]) rfl rfl rfl ?_
    refine hp_s (pc' := 29) (st' := [.int 12, .retAddr 2]) rfl rfl rfl ?_
    refine hp_s (pc' := 30) (st' := [.int 0, .int 12, .retAddr 2]) rfl rfl rfl ?_
    refine hp_s (pc' := 31) (st' := [.int 12, .retAddr 2]) rfl rfl rfl ?_
    refine hp_lds (v := 0) hro.2 rfl rfl (by decide +kernel) ?_
    intro g1a g1b
    refine hp_go (pc' := 35) rfl rfl rfl ?_
    refine hp_sta (k := 1) (pc' := 38) rfl rfl rfl ?_
    refine hp_s (pc' := 40) (st' := [.int 3, .retAddr 1]) rfl rfl rfl ?_
    refine hp_lds (v := 2) hro.1 rfl rfl (by decide +kernel) ?_
    intro g2a g2b
    refine hp_s (pc' := 43) (ls' := [(5, .int 2), (6, .int 0), (0, .ref 57), (1, .int 3), (2, .int 0), (3, .int x), (4, .int v)]) (st' := []) rfl rfl rfl ?_
    refine hp_s (pc' := 46) (ls' := [(6, .int 1), (5, .int 2), (0, .ref 57), (1, .int 3), (2, .int 0), (3, .int x), (4, .int v)]) (st' := []) rfl rfl rfl ?_
    refine hp_go (pc' := 15) rfl rfl rfl ?_
    refine hp_s (pc' := 17) (st' := [.int 1]) rfl rfl rfl ?_
    refine hp_s (pc' := 19) (st' := [.int 8, .int 1]) rfl rfl rfl ?_
    refine hp_go (pc' := 22) rfl rfl rfl ?_
    refine hp_sta (k := 2) (pc' := 25) rfl rfl rfl ?_
    refine hp_s (pc' := 27) (st' := [.int 2, .retAddr 2]) rfl rfl rfl ?_
    refine hp_s (pc' := 28) (st' := [.int 4, .int 2, .retAddr 2]) rfl rfl rfl ?_
    refine hp_s (pc' := 29) (st' := [.int 8, .retAddr 2]) rfl rfl rfl ?_
    refine hp_s (pc' := 30) (st' := [.int 0, .int 8, .retAddr 2]) rfl rfl rfl ?_
    refine hp_s (pc' := 31) (st' := [.int 8, .retAddr 2]) rfl rfl rfl ?_
    refine hp_lds (v := 0) hro.2 rfl rfl (by decide +kernel) ?_
    intro g3a g3b
    refine hp_go (pc' := 35) rfl rfl rfl ?_
    refine hp_sta (k := 1) (pc' := 38) rfl rfl rfl ?_
    refine hp_s (pc' := 40) (st' := [.int 2, .retAddr 1]) rfl rfl rfl ?_
    refine hp_lds (v := 0) hro.1 rfl rfl (by decide +kernel) ?_
    intro g4a g4b
    refine hp_s (pc' := 43) (ls' := [(5, .int 0), (6, .int 1), (0, .ref 57), (1, .int 3), (2, .int 0), (3, .int x), (4, .int v)]) (st' := []) rfl rfl rfl ?_
    refine hp_s (pc' := 46) (ls' := [(6, .int 2), (5, .int 0), (0, .ref 57), (1, .int 3), (2, .int 0), (3, .int x), (4, .int v)]) (st' := []) rfl rfl rfl ?_
    refine hp_go (pc' := 15) rfl rfl rfl ?_
    refine hp_s (pc' := 17) (st' := [.int 2]) rfl rfl rfl ?_
    refine hp_s (pc' := 19) (st' := [.int 8, .int 2]) rfl rfl rfl ?_
    refine hp_go (pc' := 22) rfl rfl rfl ?_
    refine hp_sta (k := 2) (pc' := 25) rfl rfl rfl ?_
    refine hp_s (pc' := 27) (st' := [.int 0, .retAddr 2]) rfl rfl rfl ?_
    refine hp_s (pc' := 28) (st' := [.int 4, .int 0, .retAddr 2]) rfl rfl rfl ?_
    refine hp_s (pc' := 29) (st' := [.int 0, .retAddr 2]) rfl rfl rfl ?_
    refine hp_s (pc' := 30) (st' := [.int 0, .int 0, .retAddr 2]) rfl rfl rfl ?_
    refine hp_s (pc' := 31) (st' := [.int 0, .retAddr 2]) rfl rfl rfl ?_
    refine hp_lds (v := 1) hro.2 rfl rfl (by decide +kernel) ?_
    intro g5a g5b
    refine hp_go (pc' := 49) rfl rfl rfl ?_
    refine hp_sta (k := 2) (pc' := 52) rfl rfl rfl ?_
    refine hp_s (pc' := 54) (st' := [.int 0, .retAddr 2]) rfl rfl rfl ?_
    refine hp_s (pc' := 55) (st' := [.int 4, .int 0, .retAddr 2]) rfl rfl rfl ?_
    refine hp_s (pc' := 56) (st' := [.int 0, .retAddr 2]) rfl rfl rfl ?_
    refine hp_s (pc' := 57) (st' := [.int 0, .int 0, .retAddr 2]) rfl rfl rfl ?_
    refine hp_s (pc' := 58) (st' := [.int 0, .retAddr 2]) rfl rfl rfl ?_
    refine hp_lds (v := 1) hro.2 rfl rfl (by decide +kernel) ?_
    intro g6a g6b
    refine hp_s (pc' := 61) (ls' := [(6, .int 1), (5, .int 0), (0, .ref 57), (1, .int 3), (2, .int 0), (3, .int x), (4, .int v)]) (st' := []) rfl rfl rfl ?_
    refine hp_s (pc' := 62) (st' := [.ref 57]) rfl rfl rfl ?_
    refine hp_get (k := 3) (pc' := 65) (v := (rI p 57 3)) rfl rfl rfl rfl rfl rfl ?_
    refine hp_s (pc' := 67) (st' := [.int 24, .int (rI p 57 3)]) rfl rfl rfl ?_
    refine hp_ic (pc' := 70) (t := 81) (a := (rI p 57 3).toInt) (b := 24) rfl rfl rfl rfl (by decide) (fun (h3 : 24 ≤ (rI p 57 3).toInt) => ?_) (fun (h4 : ¬ (24 ≤ (rI p 57 3).toInt)) => ?_)
    ·
      refine hp_s (pc' := 82) (st' := [.ref 57]) rfl rfl rfl ?_
      refine hp_s (pc' := 83) (st' := [.ref 57, .ref 57]) rfl rfl rfl ?_
      refine hp_get (k := 3) (pc' := 86) (v := (rI p 57 3)) rfl rfl rfl rfl rfl rfl ?_
      refine hp_s (pc' := 87) (st' := [.int 1, .int (rI p 57 3), .ref 57]) rfl rfl rfl ?_
      refine hp_z (pc' := 88) (e := (rI p 57 3) + 1) (st' := [.ref 57]) rfl rfl rfl ?_
      intro z11 hz11
      have ez11 := i_add hz11 (show (rI p 57 3).toInt = (rI p 57 3).toInt from rfl) (show (1 : Int32).toInt = 1 from by decide)
      refine hp_put (k := 3) (pc' := 91) rfl rfl rfl rfl rfl ?_
      intro p1 wp1 ep1
      have eB : p1 = hB1 p 1 := (by subst_vars; unfold hB1; first | rw [if_pos (by omega)] | rw [if_neg (by omega)])
      refine hp_s (pc' := 92) (st' := [.ref 57]) rfl rfl rfl ?_
      refine hp_s (pc' := 94) (st' := [.int 1, .ref 57]) rfl rfl rfl ?_
      refine hp_s (pc' := 95) (st' := [.int x, .int 1, .ref 57]) rfl rfl rfl ?_
      refine hp_s (pc' := 97) (st' := [.int v, .int x, .int 1, .ref 57]) rfl rfl rfl ?_
      refine hp_s (pc' := 98) (st' := [.int 1, .int v, .int x, .int 1, .ref 57]) rfl rfl rfl ?_
      refine hp_z (pc' := 99) (e := v + 1) (st' := [.int x, .int 1, .ref 57]) rfl rfl rfl ?_
      intro z12 hz12
      have ez12 := i_add hz12 (show v.toInt = v.toInt from rfl) (show (1 : Int32).toInt = 1 from by decide)
      refine hp_cv (r := 57) (o := 9) (kd := 1) (as := [.int 1, .int x, .int z12]) (rest := []) (pc' := 102) rfl rfl rfl rfl rfl rfl rfl rfl rfl (fun d1 => ?_)
      refine s_run1 hro (xi := x.toInt) rfl (vi := z12.toInt) rfl (by first | with_reducible assumption | omega | (rw [eB]; exact hKi_1 pre2) | (subst_vars; with_reducible (repeat (first | assumption | apply hKi_g)))) (by first | with_reducible assumption | omega | (rw [eB]; exact hKi_1 pre2) | (subst_vars; with_reducible (repeat (first | assumption | apply hKi_g)))) (by first | with_reducible assumption | omega | (rw [eB]; exact hKi_1 pre2) | (subst_vars; with_reducible (repeat (first | assumption | apply hKi_g)))) ?_
      intro y1 p2 h5 h6
      have qz := h5
      have qp := h6
      refine hp_id (st := [.int y1]) ?_
      refine hp_ri rfl rfl ?_
      first | (exact k0 _ _ (by first | (rw [qz, eB]; first | (rw [gO_1, gA_1]; rfl) | (rw [gA_1]; rfl) | rfl) | (rw [qp, eB]; first | (rw [gO_1]; rfl) | rfl)) (by first | (rw [qz, eB]; first | (rw [gO_1, gA_1]; rfl) | (rw [gA_1]; rfl) | rfl) | (rw [qp, eB]; first | (rw [gO_1]; rfl) | rfl))) | (exfalso; omega)
    ·
      refine hp_s (pc' := 71) (st' := [.ref 57]) rfl rfl rfl ?_
      refine hp_getr (k := 2) (w := .ref 59) (pc' := 74) rfl rfl rfl rfl rfl ?_
      refine hp_s (pc' := 75) (st' := [.ref 57, .ref 59]) rfl rfl rfl ?_
      refine hp_get (k := 3) (pc' := 78) (v := (rI p 57 3)) rfl rfl rfl rfl rfl rfl ?_
      refine hp_s (pc' := 80) (st' := [.int 1, .int (rI p 57 3), .ref 59]) rfl rfl rfl ?_
      refine hp_st (t := 100) rfl (.inl rfl) rfl rfl ?_
      intro p3 wp3 (p3a : 0 ≤ (rI p 57 3).toInt) (p3b : (rI p 57 3).toInt < 24) ep3
      refine hp_s (pc' := 82) (st' := [.ref 57]) rfl rfl rfl ?_
      refine hp_s (pc' := 83) (st' := [.ref 57, .ref 57]) rfl rfl rfl ?_
      refine hp_get (k := 3) (pc' := 86) (v := (rI p 57 3)) rfl rfl rfl rfl rfl (by rw [ep3, rI_o (by decide)]) ?_
      refine hp_s (pc' := 87) (st' := [.int 1, .int (rI p 57 3), .ref 57]) rfl rfl rfl ?_
      refine hp_z (pc' := 88) (e := (rI p 57 3) + 1) (st' := [.ref 57]) rfl rfl rfl ?_
      intro z13 hz13
      have ez13 := i_add hz13 (show (rI p 57 3).toInt = (rI p 57 3).toInt from rfl) (show (1 : Int32).toInt = 1 from by decide)
      refine hp_put (k := 3) (pc' := 91) rfl rfl rfl rfl rfl ?_
      intro p4 wp4 ep4
      have eB : p4 = hB1 p 1 := (by subst_vars; unfold hB1; first | rw [if_pos (by omega)] | rw [if_neg (by omega)])
      refine hp_s (pc' := 92) (st' := [.ref 57]) rfl rfl rfl ?_
      refine hp_s (pc' := 94) (st' := [.int 1, .ref 57]) rfl rfl rfl ?_
      refine hp_s (pc' := 95) (st' := [.int x, .int 1, .ref 57]) rfl rfl rfl ?_
      refine hp_s (pc' := 97) (st' := [.int v, .int x, .int 1, .ref 57]) rfl rfl rfl ?_
      refine hp_s (pc' := 98) (st' := [.int 1, .int v, .int x, .int 1, .ref 57]) rfl rfl rfl ?_
      refine hp_z (pc' := 99) (e := v + 1) (st' := [.int x, .int 1, .ref 57]) rfl rfl rfl ?_
      intro z14 hz14
      have ez14 := i_add hz14 (show v.toInt = v.toInt from rfl) (show (1 : Int32).toInt = 1 from by decide)
      refine hp_cv (r := 57) (o := 9) (kd := 1) (as := [.int 1, .int x, .int z14]) (rest := []) (pc' := 102) rfl rfl rfl rfl rfl rfl rfl rfl rfl (fun d2 => ?_)
      refine s_run1 hro (xi := x.toInt) rfl (vi := z14.toInt) rfl (by first | with_reducible assumption | omega | (rw [eB]; exact hKi_1 pre2) | (subst_vars; with_reducible (repeat (first | assumption | apply hKi_g)))) (by first | with_reducible assumption | omega | (rw [eB]; exact hKi_1 pre2) | (subst_vars; with_reducible (repeat (first | assumption | apply hKi_g)))) (by first | with_reducible assumption | omega | (rw [eB]; exact hKi_1 pre2) | (subst_vars; with_reducible (repeat (first | assumption | apply hKi_g)))) ?_
      intro y2 p5 h7 h8
      have qz := h7
      have qp := h8
      refine hp_id (st := [.int y2]) ?_
      refine hp_ri rfl rfl ?_
      first | (exact k0 _ _ (by first | (rw [qz, eB]; first | (rw [gO_1, gA_1]; rfl) | (rw [gA_1]; rfl) | rfl) | (rw [qp, eB]; first | (rw [gO_1]; rfl) | rfl)) (by first | (rw [qz, eB]; first | (rw [gO_1, gA_1]; rfl) | (rw [gA_1]; rfl) | rfl) | (rw [qp, eB]; first | (rw [gO_1]; rfl) | rfl))) | (exfalso; omega)
  ·
    refine hp_s (pc' := 8) (st' := [.int 0]) rfl rfl rfl ?_
    refine hp_ri rfl rfl ?_
    first | (exact k0 _ _ (by first | (rw [qz, eB]; first | (rw [gO_1, gA_1]; rfl) | (rw [gA_1]; rfl) | rfl) | (rw [qp, eB]; first | (rw [gO_1]; rfl) | rfl)) (by first | (rw [qz, eB]; first | (rw [gO_1, gA_1]; rfl) | (rw [gA_1]; rfl) | rfl) | (rw [qp, eB]; first | (rw [gO_1]; rfl) | rfl))) | (exfalso; omega)
theorem s_from4_0 {ro : List (List Int32)} {n d : Nat} {p : xH} {Q : Option Value → xH → Prop} {x : Int32} {xi : Int} {v : Int32} {vi : Int} (hro : jro ro) (hx : x.toInt = xi) (hv : v.toInt = vi) (pre0 : 0 ≤ vi) (pre1 : vi ≤ 39) (pre2 : hKi p) (k0 : ∀ z : Int32, ∀ p2 : xH, (z = aL 4 (gA p) x) → (p2 = hBg p (nL 4)) → Q (some (.int z)) p2) : hP ro n d (9, 7, 1, 1, k115) 0 (lv_args 0 [.ref 57, .int 4, .int 0, .int x, .int v]) [] p Q := by
  subst hx
  subst hv
  refine hp_id (ls := [(0, .ref 57), (1, .int 4), (2, .int 0), (3, .int x), (4, .int v)]) ?_
  refine hp_s (pc' := 2) (st' := [.int v]) rfl rfl rfl ?_
  refine hp_s (pc' := 4) (st' := [.int 40, .int v]) rfl rfl rfl ?_
  refine hp_ic (pc' := 7) (t := 9) (a := v.toInt) (b := 40) rfl rfl rfl rfl (by decide) (fun (h1 : v.toInt ≤ 40) => ?_) (fun (h2 : ¬ (v.toInt ≤ 40)) => ?_)
  ·
    refine hp_s (pc' := 10) (st' := [.int 4]) rfl rfl rfl ?_
    refine hp_s (pc' := 12) (ls' := [(5, .int 4), (0, .ref 57), (1, .int 4), (2, .int 0), (3, .int x), (4, .int v)]) (st' := []) rfl rfl rfl ?_
    refine hp_s (pc' := 13) (st' := [.int 0]) rfl rfl rfl ?_
    refine hp_s (pc' := 15) (ls' := [(6, .int 0), (5, .int 4), (0, .ref 57), (1, .int 4), (2, .int 0), (3, .int x), (4, .int v)]) (st' := []) rfl rfl rfl ?_
    refine hp_s (pc' := 17) (st' := [.int 0]) rfl rfl rfl ?_
    refine hp_s (pc' := 19) (st' := [.int 8, .int 0]) rfl rfl rfl ?_
    refine hp_go (pc' := 22) rfl rfl rfl ?_
    refine hp_sta (k := 2) (pc' := 25) rfl rfl rfl ?_
    refine hp_s (pc' := 27) (st' := [.int 4, .retAddr 2]) rfl rfl rfl ?_
    refine hp_s (pc' := 28) (st' := [.int 4, .int 4, .retAddr 2]) rfl rfl rfl ?_
    refine hp_s (pc' := 29) (st' := [.int 16, .retAddr 2]) rfl rfl rfl ?_
    refine hp_s (pc' := 30) (st' := [.int 0, .int 16, .retAddr 2]) rfl rfl rfl ?_
    refine hp_s (pc' := 31) (st' := [.int 16, .retAddr 2]) rfl rfl rfl ?_
    refine hp_lds (v := 0) hro.2 rfl rfl (by decide +kernel) ?_
    intro g1a g1b
    refine hp_go (pc' := 35) rfl rfl rfl ?_
    refine hp_sta (k := 1) (pc' := 38) rfl rfl rfl ?_
    refine hp_s (pc' := 40) (st' := [.int 4, .retAddr 1]) rfl rfl rfl ?_
    refine hp_lds (v := 1) hro.1 rfl rfl (by decide +kernel) ?_
    intro g2a g2b
    refine hp_s (pc' := 43) (ls' := [(5, .int 1), (6, .int 0), (0, .ref 57), (1, .int 4), (2, .int 0), (3, .int x), (4, .int v)]) (st' := []) rfl rfl rfl ?_
    refine hp_s (pc' := 46) (ls' := [(6, .int 1), (5, .int 1), (0, .ref 57), (1, .int 4), (2, .int 0), (3, .int x), (4, .int v)]) (st' := []) rfl rfl rfl ?_
    refine hp_go (pc' := 15) rfl rfl rfl ?_
    refine hp_s (pc' := 17) (st' := [.int 1]) rfl rfl rfl ?_
    refine hp_s (pc' := 19) (st' := [.int 8, .int 1]) rfl rfl rfl ?_
    refine hp_go (pc' := 22) rfl rfl rfl ?_
    refine hp_sta (k := 2) (pc' := 25) rfl rfl rfl ?_
    refine hp_s (pc' := 27) (st' := [.int 1, .retAddr 2]) rfl rfl rfl ?_
    refine hp_s (pc' := 28) (st' := [.int 4, .int 1, .retAddr 2]) rfl rfl rfl ?_
    refine hp_s (pc' := 29) (st' := [.int 4, .retAddr 2]) rfl rfl rfl ?_
    refine hp_s (pc' := 30) (st' := [.int 0, .int 4, .retAddr 2]) rfl rfl rfl ?_
    refine hp_s (pc' := 31) (st' := [.int 4, .retAddr 2]) rfl rfl rfl ?_
    refine hp_lds (v := 20) hro.2 rfl rfl (by decide +kernel) ?_
    intro g3a g3b
    refine hp_go (pc' := 49) rfl rfl rfl ?_
    refine hp_sta (k := 2) (pc' := 52) rfl rfl rfl ?_
    refine hp_s (pc' := 54) (st' := [.int 1, .retAddr 2]) rfl rfl rfl ?_
    refine hp_s (pc' := 55) (st' := [.int 4, .int 1, .retAddr 2]) rfl rfl rfl ?_
    refine hp_s (pc' := 56) (st' := [.int 4, .retAddr 2]) rfl rfl rfl ?_
    refine hp_s (pc' := 57) (st' := [.int 0, .int 4, .retAddr 2]) rfl rfl rfl ?_
    refine hp_s (pc' := 58) (st' := [.int 4, .retAddr 2]) rfl rfl rfl ?_
    refine hp_lds (v := 20) hro.2 rfl rfl (by decide +kernel) ?_
    intro g4a g4b
    refine hp_s (pc' := 61) (ls' := [(6, .int 20), (5, .int 1), (0, .ref 57), (1, .int 4), (2, .int 0), (3, .int x), (4, .int v)]) (st' := []) rfl rfl rfl ?_
    refine hp_s (pc' := 62) (st' := [.ref 57]) rfl rfl rfl ?_
    refine hp_get (k := 3) (pc' := 65) (v := (rI p 57 3)) rfl rfl rfl rfl rfl rfl ?_
    refine hp_s (pc' := 67) (st' := [.int 24, .int (rI p 57 3)]) rfl rfl rfl ?_
    refine hp_ic (pc' := 70) (t := 81) (a := (rI p 57 3).toInt) (b := 24) rfl rfl rfl rfl (by decide) (fun (h3 : 24 ≤ (rI p 57 3).toInt) => ?_) (fun (h4 : ¬ (24 ≤ (rI p 57 3).toInt)) => ?_)
    ·
      refine hp_s (pc' := 82) (st' := [.ref 57]) rfl rfl rfl ?_
      refine hp_s (pc' := 83) (st' := [.ref 57, .ref 57]) rfl rfl rfl ?_
      refine hp_get (k := 3) (pc' := 86) (v := (rI p 57 3)) rfl rfl rfl rfl rfl rfl ?_
      refine hp_s (pc' := 87) (st' := [.int 1, .int (rI p 57 3), .ref 57]) rfl rfl rfl ?_
      refine hp_z (pc' := 88) (e := (rI p 57 3) + 1) (st' := [.ref 57]) rfl rfl rfl ?_
      intro z8 hz8
      have ez8 := i_add hz8 (show (rI p 57 3).toInt = (rI p 57 3).toInt from rfl) (show (1 : Int32).toInt = 1 from by decide)
      refine hp_put (k := 3) (pc' := 91) rfl rfl rfl rfl rfl ?_
      intro p1 wp1 ep1
      have eB : p1 = hB1 p 20 := (by subst_vars; unfold hB1; first | rw [if_pos (by omega)] | rw [if_neg (by omega)])
      refine hp_s (pc' := 92) (st' := [.ref 57]) rfl rfl rfl ?_
      refine hp_s (pc' := 94) (st' := [.int 20, .ref 57]) rfl rfl rfl ?_
      refine hp_s (pc' := 95) (st' := [.int x, .int 20, .ref 57]) rfl rfl rfl ?_
      refine hp_s (pc' := 97) (st' := [.int v, .int x, .int 20, .ref 57]) rfl rfl rfl ?_
      refine hp_s (pc' := 98) (st' := [.int 1, .int v, .int x, .int 20, .ref 57]) rfl rfl rfl ?_
      refine hp_z (pc' := 99) (e := v + 1) (st' := [.int x, .int 20, .ref 57]) rfl rfl rfl ?_
      intro z9 hz9
      have ez9 := i_add hz9 (show v.toInt = v.toInt from rfl) (show (1 : Int32).toInt = 1 from by decide)
      refine hp_cv (r := 57) (o := 9) (kd := 1) (as := [.int 20, .int x, .int z9]) (rest := []) (pc' := 102) rfl rfl rfl rfl rfl rfl rfl rfl rfl (fun d1 => ?_)
      refine s_run20 hro (xi := x.toInt) rfl (vi := z9.toInt) rfl (by first | with_reducible assumption | omega | (rw [eB]; exact hKi_1 pre2) | (subst_vars; with_reducible (repeat (first | assumption | apply hKi_g)))) (by first | with_reducible assumption | omega | (rw [eB]; exact hKi_1 pre2) | (subst_vars; with_reducible (repeat (first | assumption | apply hKi_g)))) (by first | with_reducible assumption | omega | (rw [eB]; exact hKi_1 pre2) | (subst_vars; with_reducible (repeat (first | assumption | apply hKi_g)))) ?_
      intro y1 p2 h5 h6
      have qz := h5
      have qp := h6
      refine hp_id (st := [.int y1]) ?_
      refine hp_ri rfl rfl ?_
      first | (exact k0 _ _ (by first | (rw [qz, eB]; first | (rw [gO_1, gA_1]; rfl) | (rw [gA_1]; rfl) | rfl) | (rw [qp, eB]; first | (rw [gO_1]; rfl) | rfl)) (by first | (rw [qz, eB]; first | (rw [gO_1, gA_1]; rfl) | (rw [gA_1]; rfl) | rfl) | (rw [qp, eB]; first | (rw [gO_1]; rfl) | rfl))) | (exfalso; omega)
    ·
      refine hp_s (pc' := 71) (st' := [.ref 57]) rfl rfl rfl ?_
      refine hp_getr (k := 2) (w := .ref 59) (pc' := 74) rfl rfl rfl rfl rfl ?_
      refine hp_s (pc' := 75) (st' := [.ref 57, .ref 59]) rfl rfl rfl ?_
      refine hp_get (k := 3) (pc' := 78) (v := (rI p 57 3)) rfl rfl rfl rfl rfl rfl ?_
      refine hp_s (pc' := 80) (st' := [.int 20, .int (rI p 57 3), .ref 59]) rfl rfl rfl ?_
      refine hp_st (t := 100) rfl (.inl rfl) rfl rfl ?_
      intro p3 wp3 (p3a : 0 ≤ (rI p 57 3).toInt) (p3b : (rI p 57 3).toInt < 24) ep3
      refine hp_s (pc' := 82) (st' := [.ref 57]) rfl rfl rfl ?_
      refine hp_s (pc' := 83) (st' := [.ref 57, .ref 57]) rfl rfl rfl ?_
      refine hp_get (k := 3) (pc' := 86) (v := (rI p 57 3)) rfl rfl rfl rfl rfl (by rw [ep3, rI_o (by decide)]) ?_
      refine hp_s (pc' := 87) (st' := [.int 1, .int (rI p 57 3), .ref 57]) rfl rfl rfl ?_
      refine hp_z (pc' := 88) (e := (rI p 57 3) + 1) (st' := [.ref 57]) rfl rfl rfl ?_
      intro z10 hz10
      have ez10 := i_add hz10 (show (rI p 57 3).toInt = (rI p 57 3).toInt from rfl) (show (1 : Int32).toInt = 1 from by decide)
      refine hp_put (k := 3) (pc' := 91) rfl rfl rfl rfl rfl ?_
      intro p4 wp4 ep4
      have eB : p4 = hB1 p 20 := (by subst_vars; unfold hB1; first | rw [if_pos (by omega)] | rw [if_neg (by omega)])
      refine hp_s (pc' := 92) (st' := [.ref 57]) rfl rfl rfl ?_
      refine hp_s (pc' := 94) (st' := [.int 20, .ref 57]) rfl rfl rfl ?_
      refine hp_s (pc' := 95) (st' := [.int x, .int 20, .ref 57]) rfl rfl rfl ?_
      refine hp_s (pc' := 97) (st' := [.int v, .int x, .int 20, .ref 57]) rfl rfl rfl ?_
      refine hp_s (pc' := 98) (st' := [.int 1, .int v, .int x, .int 20, .ref 57]) rfl rfl rfl ?_
      refine hp_z (pc' := 99) (e := v + 1) (st' := [.int x, .int 20, .ref 57]) rfl rfl rfl ?_
      intro z11 hz11
      have ez11 := i_add hz11 (show v.toInt = v.toInt from rfl) (show (1 : Int32).toInt = 1 from by decide)
      refine hp_cv (r := 57) (o := 9) (kd := 1) (as := [.int 20, .int x, .int z11]) (rest := []) (pc' := 102) rfl rfl rfl rfl rfl rfl rfl rfl rfl (fun d2 => ?_)
      refine s_run20 hro (xi := x.toInt) rfl (vi := z11.toInt) rfl (by first | with_reducible assumption | omega | (rw [eB]; exact hKi_1 pre2) | (subst_vars; with_reducible (repeat (first | assumption | apply hKi_g)))) (by first | with_reducible assumption | omega | (rw [eB]; exact hKi_1 pre2) | (subst_vars; with_reducible (repeat (first | assumption | apply hKi_g)))) (by first | with_reducible assumption | omega | (rw [eB]; exact hKi_1 pre2) | (subst_vars; with_reducible (repeat (first | assumption | apply hKi_g)))) ?_
      intro y2 p5 h7 h8
      have qz := h7
      have qp := h8
      refine hp_id (st := [.int y2]) ?_
      refine hp_ri rfl rfl ?_
      first | (exact k0 _ _ (by first | (rw [qz, eB]; first | (rw [gO_1, gA_1]; rfl) | (rw [gA_1]; rfl) | rfl) | (rw [qp, eB]; first | (rw [gO_1]; rfl) | rfl)) (by first | (rw [qz, eB]; first | (rw [gO_1, gA_1]; rfl) | (rw [gA_1]; rfl) | rfl) | (rw [qp, eB]; first | (rw [gO_1]; rfl) | rfl))) | (exfalso; omega)
  ·
    refine hp_s (pc' := 8) (st' := [.int 0]) rfl rfl rfl ?_
    refine hp_ri rfl rfl ?_
    first | (exact k0 _ _ (by first | (rw [qz, eB]; first | (rw [gO_1, gA_1]; rfl) | (rw [gA_1]; rfl) | rfl) | (rw [qp, eB]; first | (rw [gO_1]; rfl) | rfl)) (by first | (rw [qz, eB]; first | (rw [gO_1, gA_1]; rfl) | (rw [gA_1]; rfl) | rfl) | (rw [qp, eB]; first | (rw [gO_1]; rfl) | rfl))) | (exfalso; omega)
theorem s_from5_0 {ro : List (List Int32)} {n d : Nat} {p : xH} {Q : Option Value → xH → Prop} {x : Int32} {xi : Int} {v : Int32} {vi : Int} (hro : jro ro) (hx : x.toInt = xi) (hv : v.toInt = vi) (pre0 : 0 ≤ vi) (pre1 : vi ≤ 40) (pre2 : hKi p) (k0 : ∀ z : Int32, ∀ p2 : xH, (z = aL 5 (gA p) x) → (p2 = hBg p (nL 5)) → Q (some (.int z)) p2) : hP ro n d (9, 7, 1, 1, k115) 0 (lv_args 0 [.ref 57, .int 5, .int 0, .int x, .int v]) [] p Q := by
  subst hx
  subst hv
  refine hp_id (ls := [(0, .ref 57), (1, .int 5), (2, .int 0), (3, .int x), (4, .int v)]) ?_
  refine hp_s (pc' := 2) (st' := [.int v]) rfl rfl rfl ?_
  refine hp_s (pc' := 4) (st' := [.int 40, .int v]) rfl rfl rfl ?_
  refine hp_ic (pc' := 7) (t := 9) (a := v.toInt) (b := 40) rfl rfl rfl rfl (by decide) (fun (h1 : v.toInt ≤ 40) => ?_) (fun (h2 : ¬ (v.toInt ≤ 40)) => ?_)
  ·
    refine hp_s (pc' := 10) (st' := [.int 5]) rfl rfl rfl ?_
    refine hp_s (pc' := 12) (ls' := [(5, .int 5), (0, .ref 57), (1, .int 5), (2, .int 0), (3, .int x), (4, .int v)]) (st' := []) rfl rfl rfl ?_
    refine hp_s (pc' := 13) (st' := [.int 0]) rfl rfl rfl ?_
    refine hp_s (pc' := 15) (ls' := [(6, .int 0), (5, .int 5), (0, .ref 57), (1, .int 5), (2, .int 0), (3, .int x), (4, .int v)]) (st' := []) rfl rfl rfl ?_
    refine hp_s (pc' := 17) (st' := [.int 0]) rfl rfl rfl ?_
    refine hp_s (pc' := 19) (st' := [.int 8, .int 0]) rfl rfl rfl ?_
    refine hp_go (pc' := 22) rfl rfl rfl ?_
    refine hp_sta (k := 2) (pc' := 25) rfl rfl rfl ?_
    refine hp_s (pc' := 27) (st' := [.int 5, .retAddr 2]) rfl rfl rfl ?_
    refine hp_s (pc' := 28) (st' := [.int 4, .int 5, .retAddr 2]) rfl rfl rfl ?_
    refine hp_s (pc' := 29) (st' := [.int 20, .retAddr 2]) rfl rfl rfl ?_
    refine hp_s (pc' := 30) (st' := [.int 0, .int 20, .retAddr 2]) rfl rfl rfl ?_
    refine hp_s (pc' := 31) (st' := [.int 20, .retAddr 2]) rfl rfl rfl ?_
    refine hp_lds (v := 0) hro.2 rfl rfl (by decide +kernel) ?_
    intro g1a g1b
    refine hp_go (pc' := 35) rfl rfl rfl ?_
    refine hp_sta (k := 1) (pc' := 38) rfl rfl rfl ?_
    refine hp_s (pc' := 40) (st' := [.int 5, .retAddr 1]) rfl rfl rfl ?_
    refine hp_lds (v := 3) hro.1 rfl rfl (by decide +kernel) ?_
    intro g2a g2b
    refine hp_s (pc' := 43) (ls' := [(5, .int 3), (6, .int 0), (0, .ref 57), (1, .int 5), (2, .int 0), (3, .int x), (4, .int v)]) (st' := []) rfl rfl rfl ?_
    refine hp_s (pc' := 46) (ls' := [(6, .int 1), (5, .int 3), (0, .ref 57), (1, .int 5), (2, .int 0), (3, .int x), (4, .int v)]) (st' := []) rfl rfl rfl ?_
    refine hp_go (pc' := 15) rfl rfl rfl ?_
    refine hp_s (pc' := 17) (st' := [.int 1]) rfl rfl rfl ?_
    refine hp_s (pc' := 19) (st' := [.int 8, .int 1]) rfl rfl rfl ?_
    refine hp_go (pc' := 22) rfl rfl rfl ?_
    refine hp_sta (k := 2) (pc' := 25) rfl rfl rfl ?_
    refine hp_s (pc' := 27) (st' := [.int 3, .retAddr 2]) rfl rfl rfl ?_
    refine hp_s (pc' := 28) (st' := [.int 4, .int 3, .retAddr 2]) rfl rfl rfl ?_
    refine hp_s (pc' := 29) (st' := [.int 12, .retAddr 2]) rfl rfl rfl ?_
    refine hp_s (pc' := 30) (st' := [.int 0, .int 12, .retAddr 2]) rfl rfl rfl ?_
    refine hp_s (pc' := 31) (st' := [.int 12, .retAddr 2]) rfl rfl rfl ?_
    refine hp_lds (v := 0) hro.2 rfl rfl (by decide +kernel) ?_
    intro g3a g3b
    refine hp_go (pc' := 35) rfl rfl rfl ?_
    refine hp_sta (k := 1) (pc' := 38) rfl rfl rfl ?_
    refine hp_s (pc' := 40) (st' := [.int 3, .retAddr 1]) rfl rfl rfl ?_
    refine hp_lds (v := 2) hro.1 rfl rfl (by decide +kernel) ?_
    intro g4a g4b
    refine hp_s (pc' := 43) (ls' := [(5, .int 2), (6, .int 1), (0, .ref 57), (1, .int 5), (2, .int 0), (3, .int x), (4, .int v)]) (st' := []) rfl rfl rfl ?_
    refine hp_s (pc' := 46) (ls' := [(6, .int 2), (5, .int 2), (0, .ref 57), (1, .int 5), (2, .int 0), (3, .int x), (4, .int v)]) (st' := []) rfl rfl rfl ?_
    refine hp_go (pc' := 15) rfl rfl rfl ?_
    refine hp_s (pc' := 17) (st' := [.int 2]) rfl rfl rfl ?_
    refine hp_s (pc' := 19) (st' := [.int 8, .int 2]) rfl rfl rfl ?_
    refine hp_go (pc' := 22) rfl rfl rfl ?_
    refine hp_sta (k := 2) (pc' := 25) rfl rfl rfl ?_
    refine hp_s (pc' := 27) (st' := [.int 2, .retAddr 2]) rfl rfl rfl ?_
    refine hp_s (pc' := 28) (st' := [.int 4, .int 2, .retAddr 2]) rfl rfl rfl ?_
    refine hp_s (pc' := 29) (st' := [.int 8, .retAddr 2]) rfl rfl rfl ?_
    refine hp_s (pc' := 30) (st' := [.int 0, .int 8, .retAddr 2]) rfl rfl rfl ?_
    refine hp_s (pc' := 31) (st' := [.int 8, .retAddr 2]) rfl rfl rfl ?_
    refine hp_lds (v := 0) hro.2 rfl rfl (by decide +kernel) ?_
    intro g5a g5b
    refine hp_go (pc' := 35) rfl rfl rfl ?_
    refine hp_sta (k := 1) (pc' := 38) rfl rfl rfl ?_
    refine hp_s (pc' := 40) (st' := [.int 2, .retAddr 1]) rfl rfl rfl ?_
    refine hp_lds (v := 0) hro.1 rfl rfl (by decide +kernel) ?_
    intro g6a g6b
    refine hp_s (pc' := 43) (ls' := [(5, .int 0), (6, .int 2), (0, .ref 57), (1, .int 5), (2, .int 0), (3, .int x), (4, .int v)]) (st' := []) rfl rfl rfl ?_
    refine hp_s (pc' := 46) (ls' := [(6, .int 3), (5, .int 0), (0, .ref 57), (1, .int 5), (2, .int 0), (3, .int x), (4, .int v)]) (st' := []) rfl rfl rfl ?_
    refine hp_go (pc' := 15) rfl rfl rfl ?_
    refine hp_s (pc' := 17) (st' := [.int 3]) rfl rfl rfl ?_
    refine hp_s (pc' := 19) (st' := [.int 8, .int 3]) rfl rfl rfl ?_
    refine hp_go (pc' := 22) rfl rfl rfl ?_
    refine hp_sta (k := 2) (pc' := 25) rfl rfl rfl ?_
    refine hp_s (pc' := 27) (st' := [.int 0, .retAddr 2]) rfl rfl rfl ?_
    refine hp_s (pc' := 28) (st' := [.int 4, .int 0, .retAddr 2]) rfl rfl rfl ?_
    refine hp_s (pc' := 29) (st' := [.int 0, .retAddr 2]) rfl rfl rfl ?_
    refine hp_s (pc' := 30) (st' := [.int 0, .int 0, .retAddr 2]) rfl rfl rfl ?_
    refine hp_s (pc' := 31) (st' := [.int 0, .retAddr 2]) rfl rfl rfl ?_
    refine hp_lds (v := 1) hro.2 rfl rfl (by decide +kernel) ?_
    intro g7a g7b
    refine hp_go (pc' := 49) rfl rfl rfl ?_
    refine hp_sta (k := 2) (pc' := 52) rfl rfl rfl ?_
    refine hp_s (pc' := 54) (st' := [.int 0, .retAddr 2]) rfl rfl rfl ?_
    refine hp_s (pc' := 55) (st' := [.int 4, .int 0, .retAddr 2]) rfl rfl rfl ?_
    refine hp_s (pc' := 56) (st' := [.int 0, .retAddr 2]) rfl rfl rfl ?_
    refine hp_s (pc' := 57) (st' := [.int 0, .int 0, .retAddr 2]) rfl rfl rfl ?_
    refine hp_s (pc' := 58) (st' := [.int 0, .retAddr 2]) rfl rfl rfl ?_
    refine hp_lds (v := 1) hro.2 rfl rfl (by decide +kernel) ?_
    intro g8a g8b
    refine hp_s (pc' := 61) (ls' := [(6, .int 1), (5, .int 0), (0, .ref 57), (1, .int 5), (2, .int 0), (3, .int x), (4, .int v)]) (st' := []) rfl rfl rfl ?_
    refine hp_s (pc' := 62) (st' := [.ref 57]) rfl rfl rfl ?_
    refine hp_get (k := 3) (pc' := 65) (v := (rI p 57 3)) rfl rfl rfl rfl rfl rfl ?_
    refine hp_s (pc' := 67) (st' := [.int 24, .int (rI p 57 3)]) rfl rfl rfl ?_
    refine hp_ic (pc' := 70) (t := 81) (a := (rI p 57 3).toInt) (b := 24) rfl rfl rfl rfl (by decide) (fun (h3 : 24 ≤ (rI p 57 3).toInt) => ?_) (fun (h4 : ¬ (24 ≤ (rI p 57 3).toInt)) => ?_)
    ·
      refine hp_s (pc' := 82) (st' := [.ref 57]) rfl rfl rfl ?_
      refine hp_s (pc' := 83) (st' := [.ref 57, .ref 57]) rfl rfl rfl ?_
      refine hp_get (k := 3) (pc' := 86) (v := (rI p 57 3)) rfl rfl rfl rfl rfl rfl ?_
      refine hp_s (pc' := 87) (st' := [.int 1, .int (rI p 57 3), .ref 57]) rfl rfl rfl ?_
      refine hp_z (pc' := 88) (e := (rI p 57 3) + 1) (st' := [.ref 57]) rfl rfl rfl ?_
      intro z14 hz14
      have ez14 := i_add hz14 (show (rI p 57 3).toInt = (rI p 57 3).toInt from rfl) (show (1 : Int32).toInt = 1 from by decide)
      refine hp_put (k := 3) (pc' := 91) rfl rfl rfl rfl rfl ?_
      intro p1 wp1 ep1
      have eB : p1 = hB1 p 1 := (by subst_vars; unfold hB1; first | rw [if_pos (by omega)] | rw [if_neg (by omega)])
      refine hp_s (pc' := 92) (st' := [.ref 57]) rfl rfl rfl ?_
      refine hp_s (pc' := 94) (st' := [.int 1, .ref 57]) rfl rfl rfl ?_
      refine hp_s (pc' := 95) (st' := [.int x, .int 1, .ref 57]) rfl rfl rfl ?_
      refine hp_s (pc' := 97) (st' := [.int v, .int x, .int 1, .ref 57]) rfl rfl rfl ?_
      refine hp_s (pc' := 98) (st' := [.int 1, .int v, .int x, .int 1, .ref 57]) rfl rfl rfl ?_
      refine hp_z (pc' := 99) (e := v + 1) (st' := [.int x, .int 1, .ref 57]) rfl rfl rfl ?_
      intro z15 hz15
      have ez15 := i_add hz15 (show v.toInt = v.toInt from rfl) (show (1 : Int32).toInt = 1 from by decide)
      refine hp_cv (r := 57) (o := 9) (kd := 1) (as := [.int 1, .int x, .int z15]) (rest := []) (pc' := 102) rfl rfl rfl rfl rfl rfl rfl rfl rfl (fun d1 => ?_)
      refine s_run1 hro (xi := x.toInt) rfl (vi := z15.toInt) rfl (by first | with_reducible assumption | omega | (rw [eB]; exact hKi_1 pre2) | (subst_vars; with_reducible (repeat (first | assumption | apply hKi_g)))) (by first | with_reducible assumption | omega | (rw [eB]; exact hKi_1 pre2) | (subst_vars; with_reducible (repeat (first | assumption | apply hKi_g)))) (by first | with_reducible assumption | omega | (rw [eB]; exact hKi_1 pre2) | (subst_vars; with_reducible (repeat (first | assumption | apply hKi_g)))) ?_
      intro y1 p2 h5 h6
      have qz := h5
      have qp := h6
      refine hp_id (st := [.int y1]) ?_
      refine hp_ri rfl rfl ?_
      first | (exact k0 _ _ (by first | (rw [qz, eB]; first | (rw [gO_1, gA_1]; rfl) | (rw [gA_1]; rfl) | rfl) | (rw [qp, eB]; first | (rw [gO_1]; rfl) | rfl)) (by first | (rw [qz, eB]; first | (rw [gO_1, gA_1]; rfl) | (rw [gA_1]; rfl) | rfl) | (rw [qp, eB]; first | (rw [gO_1]; rfl) | rfl))) | (exfalso; omega)
    ·
      refine hp_s (pc' := 71) (st' := [.ref 57]) rfl rfl rfl ?_
      refine hp_getr (k := 2) (w := .ref 59) (pc' := 74) rfl rfl rfl rfl rfl ?_
      refine hp_s (pc' := 75) (st' := [.ref 57, .ref 59]) rfl rfl rfl ?_
      refine hp_get (k := 3) (pc' := 78) (v := (rI p 57 3)) rfl rfl rfl rfl rfl rfl ?_
      refine hp_s (pc' := 80) (st' := [.int 1, .int (rI p 57 3), .ref 59]) rfl rfl rfl ?_
      refine hp_st (t := 100) rfl (.inl rfl) rfl rfl ?_
      intro p3 wp3 (p3a : 0 ≤ (rI p 57 3).toInt) (p3b : (rI p 57 3).toInt < 24) ep3
      refine hp_s (pc' := 82) (st' := [.ref 57]) rfl rfl rfl ?_
      refine hp_s (pc' := 83) (st' := [.ref 57, .ref 57]) rfl rfl rfl ?_
      refine hp_get (k := 3) (pc' := 86) (v := (rI p 57 3)) rfl rfl rfl rfl rfl (by rw [ep3, rI_o (by decide)]) ?_
      refine hp_s (pc' := 87) (st' := [.int 1, .int (rI p 57 3), .ref 57]) rfl rfl rfl ?_
      refine hp_z (pc' := 88) (e := (rI p 57 3) + 1) (st' := [.ref 57]) rfl rfl rfl ?_
      intro z16 hz16
      have ez16 := i_add hz16 (show (rI p 57 3).toInt = (rI p 57 3).toInt from rfl) (show (1 : Int32).toInt = 1 from by decide)
      refine hp_put (k := 3) (pc' := 91) rfl rfl rfl rfl rfl ?_
      intro p4 wp4 ep4
      have eB : p4 = hB1 p 1 := (by subst_vars; unfold hB1; first | rw [if_pos (by omega)] | rw [if_neg (by omega)])
      refine hp_s (pc' := 92) (st' := [.ref 57]) rfl rfl rfl ?_
      refine hp_s (pc' := 94) (st' := [.int 1, .ref 57]) rfl rfl rfl ?_
      refine hp_s (pc' := 95) (st' := [.int x, .int 1, .ref 57]) rfl rfl rfl ?_
      refine hp_s (pc' := 97) (st' := [.int v, .int x, .int 1, .ref 57]) rfl rfl rfl ?_
      refine hp_s (pc' := 98) (st' := [.int 1, .int v, .int x, .int 1, .ref 57]) rfl rfl rfl ?_
      refine hp_z (pc' := 99) (e := v + 1) (st' := [.int x, .int 1, .ref 57]) rfl rfl rfl ?_
      intro z17 hz17
      have ez17 := i_add hz17 (show v.toInt = v.toInt from rfl) (show (1 : Int32).toInt = 1 from by decide)
      refine hp_cv (r := 57) (o := 9) (kd := 1) (as := [.int 1, .int x, .int z17]) (rest := []) (pc' := 102) rfl rfl rfl rfl rfl rfl rfl rfl rfl (fun d2 => ?_)
      refine s_run1 hro (xi := x.toInt) rfl (vi := z17.toInt) rfl (by first | with_reducible assumption | omega | (rw [eB]; exact hKi_1 pre2) | (subst_vars; with_reducible (repeat (first | assumption | apply hKi_g)))) (by first | with_reducible assumption | omega | (rw [eB]; exact hKi_1 pre2) | (subst_vars; with_reducible (repeat (first | assumption | apply hKi_g)))) (by first | with_reducible assumption | omega | (rw [eB]; exact hKi_1 pre2) | (subst_vars; with_reducible (repeat (first | assumption | apply hKi_g)))) ?_
      intro y2 p5 h7 h8
      have qz := h7
      have qp := h8
      refine hp_id (st := [.int y2]) ?_
      refine hp_ri rfl rfl ?_
      first | (exact k0 _ _ (by first | (rw [qz, eB]; first | (rw [gO_1, gA_1]; rfl) | (rw [gA_1]; rfl) | rfl) | (rw [qp, eB]; first | (rw [gO_1]; rfl) | rfl)) (by first | (rw [qz, eB]; first | (rw [gO_1, gA_1]; rfl) | (rw [gA_1]; rfl) | rfl) | (rw [qp, eB]; first | (rw [gO_1]; rfl) | rfl))) | (exfalso; omega)
  ·
    refine hp_s (pc' := 8) (st' := [.int 0]) rfl rfl rfl ?_
    refine hp_ri rfl rfl ?_
    first | (exact k0 _ _ (by first | (rw [qz, eB]; first | (rw [gO_1, gA_1]; rfl) | (rw [gA_1]; rfl) | rfl) | (rw [qp, eB]; first | (rw [gO_1]; rfl) | rfl)) (by first | (rw [qz, eB]; first | (rw [gO_1, gA_1]; rfl) | (rw [gA_1]; rfl) | rfl) | (rw [qp, eB]; first | (rw [gO_1]; rfl) | rfl))) | (exfalso; omega)
theorem s_run70 {ro : List (List Int32)} {n d : Nat} {p : xH} {Q : Option Value → xH → Prop} {x : Int32} {xi : Int} {v : Int32} {vi : Int} (hro : jro ro) (hx : x.toInt = xi) (hv : v.toInt = vi) (pre0 : 0 ≤ vi) (pre1 : vi ≤ 40) (pre2 : hKi p) (k0 : ∀ z : Int32, ∀ p2 : xH, (z = (aL 0 (gA p) x) * 2) → (p2 = hBg p (nL 0)) → Q (some (.int z)) p2) : hP ro n d (9, 7, 1, 1, k116) 0 (lv_args 0 [.ref 57, .int 70, .int x, .int v]) [] p Q := by
  subst hx
  subst hv
  refine hp_id (ls := [(0, .ref 57), (1, .int 70), (2, .int x), (3, .int v)]) ?_
  refine hp_s (pc' := 1) (st' := [.int 70]) rfl rfl rfl ?_
  refine hp_go (pc' := 235) rfl rfl rfl ?_
  refine hp_s (pc' := 236) (st' := [.ref 57]) rfl rfl rfl ?_
  refine hp_s (pc' := 237) (st' := [.int 0, .ref 57]) rfl rfl rfl ?_
  refine hp_s (pc' := 238) (st' := [.int 0, .int 0, .ref 57]) rfl rfl rfl ?_
  refine hp_s (pc' := 239) (st' := [.int x, .int 0, .int 0, .ref 57]) rfl rfl rfl ?_
  refine hp_s (pc' := 240) (st' := [.int v, .int x, .int 0, .int 0, .ref 57]) rfl rfl rfl ?_
  refine hp_cv (r := 57) (o := 9) (kd := 1) (as := [.int 0, .int 0, .int x, .int v]) (rest := []) (pc' := 243) rfl rfl rfl rfl rfl rfl rfl rfl rfl (fun d1 => ?_)
  refine s_from0_0 hro (xi := x.toInt) rfl (vi := v.toInt) rfl (by first | with_reducible assumption | omega | (rw [eB]; exact hKi_1 pre2) | (subst_vars; with_reducible (repeat (first | assumption | apply hKi_g)))) (by first | with_reducible assumption | omega | (rw [eB]; exact hKi_1 pre2) | (subst_vars; with_reducible (repeat (first | assumption | apply hKi_g)))) (by first | with_reducible assumption | omega | (rw [eB]; exact hKi_1 pre2) | (subst_vars; with_reducible (repeat (first | assumption | apply hKi_g)))) ?_
  intro y1 p1 h1 h2
  refine hp_id (st := [.int y1]) ?_
  refine hp_s (pc' := 244) (st' := [.int 2, .int y1]) rfl rfl rfl ?_
  refine hp_z (pc' := 245) (e := y1 * 2) (st' := []) rfl rfl rfl ?_
  intro z1 hz1
  have ez1 := i_mul hz1 (show y1.toInt = y1.toInt from rfl) (show (2 : Int32).toInt = 2 from by decide)
  refine hp_ri rfl rfl ?_
  first | (exact k0 _ _ (by first | assumption | (subst_vars; first | rfl | (simp only [gO_g, gA_g, hBg_app]; done) | (simp only [gO_g, gA_g, hBg_app]; rfl))) (by first | assumption | (subst_vars; first | rfl | (simp only [gO_g, gA_g, hBg_app]; done) | (simp only [gO_g, gA_g, hBg_app]; rfl)))) | (exfalso; omega)
theorem s_from6_0 {ro : List (List Int32)} {n d : Nat} {p : xH} {Q : Option Value → xH → Prop} {x : Int32} {xi : Int} {v : Int32} {vi : Int} (hro : jro ro) (hx : x.toInt = xi) (hv : v.toInt = vi) (pre0 : 0 ≤ vi) (pre1 : vi ≤ 39) (pre2 : hKi p) (k0 : ∀ z : Int32, ∀ p2 : xH, (z = aL 6 (gA p) x) → (p2 = hBg p (nL 6)) → Q (some (.int z)) p2) : hP ro n d (9, 7, 1, 1, k115) 0 (lv_args 0 [.ref 57, .int 6, .int 0, .int x, .int v]) [] p Q := by
  subst hx
  subst hv
  refine hp_id (ls := [(0, .ref 57), (1, .int 6), (2, .int 0), (3, .int x), (4, .int v)]) ?_
  refine hp_s (pc' := 2) (st' := [.int v]) rfl rfl rfl ?_
  refine hp_s (pc' := 4) (st' := [.int 40, .int v]) rfl rfl rfl ?_
  refine hp_ic (pc' := 7) (t := 9) (a := v.toInt) (b := 40) rfl rfl rfl rfl (by decide) (fun (h1 : v.toInt ≤ 40) => ?_) (fun (h2 : ¬ (v.toInt ≤ 40)) => ?_)
  ·
    refine hp_s (pc' := 10) (st' := [.int 6]) rfl rfl rfl ?_
    refine hp_s (pc' := 12) (ls' := [(5, .int 6), (0, .ref 57), (1, .int 6), (2, .int 0), (3, .int x), (4, .int v)]) (st' := []) rfl rfl rfl ?_
    refine hp_s (pc' := 13) (st' := [.int 0]) rfl rfl rfl ?_
    refine hp_s (pc' := 15) (ls' := [(6, .int 0), (5, .int 6), (0, .ref 57), (1, .int 6), (2, .int 0), (3, .int x), (4, .int v)]) (st' := []) rfl rfl rfl ?_
    refine hp_s (pc' := 17) (st' := [.int 0]) rfl rfl rfl ?_
    refine hp_s (pc' := 19) (st' := [.int 8, .int 0]) rfl rfl rfl ?_
    refine hp_go (pc' := 22) rfl rfl rfl ?_
    refine hp_sta (k := 2) (pc' := 25) rfl rfl rfl ?_
    refine hp_s (pc' := 27) (st' := [.int 6, .retAddr 2]) rfl rfl rfl ?_
    refine hp_s (pc' := 28) (st' := [.int 4, .int 6, .retAddr 2]) rfl rfl rfl ?_
    refine hp_s (pc' := 29) (st' := [.int 24, .retAddr 2]) rfl rfl rfl ?_
    refine hp_s (pc' := 30) (st' := [.int 0, .int 24, .retAddr 2]) rfl rfl rfl ?_
    refine hp_s (pc' := 31) (st' := [.int 24, .retAddr 2]) rfl rfl rfl ?_
    refine hp_lds (v := 70) hro.2 rfl rfl (by decide +kernel) ?_
    intro g1a g1b
    refine hp_go (pc' := 49) rfl rfl rfl ?_
    refine hp_sta (k := 2) (pc' := 52) rfl rfl rfl ?_
    refine hp_s (pc' := 54) (st' := [.int 6, .retAddr 2]) rfl rfl rfl ?_
    refine hp_s (pc' := 55) (st' := [.int 4, .int 6, .retAddr 2]) rfl rfl rfl ?_
    refine hp_s (pc' := 56) (st' := [.int 24, .retAddr 2]) rfl rfl rfl ?_
    refine hp_s (pc' := 57) (st' := [.int 0, .int 24, .retAddr 2]) rfl rfl rfl ?_
    refine hp_s (pc' := 58) (st' := [.int 24, .retAddr 2]) rfl rfl rfl ?_
    refine hp_lds (v := 70) hro.2 rfl rfl (by decide +kernel) ?_
    intro g2a g2b
    refine hp_s (pc' := 61) (ls' := [(6, .int 70), (5, .int 6), (0, .ref 57), (1, .int 6), (2, .int 0), (3, .int x), (4, .int v)]) (st' := []) rfl rfl rfl ?_
    refine hp_s (pc' := 62) (st' := [.ref 57]) rfl rfl rfl ?_
    refine hp_get (k := 3) (pc' := 65) (v := (rI p 57 3)) rfl rfl rfl rfl rfl rfl ?_
    refine hp_s (pc' := 67) (st' := [.int 24, .int (rI p 57 3)]) rfl rfl rfl ?_
    refine hp_ic (pc' := 70) (t := 81) (a := (rI p 57 3).toInt) (b := 24) rfl rfl rfl rfl (by decide) (fun (h3 : 24 ≤ (rI p 57 3).toInt) => ?_) (fun (h4 : ¬ (24 ≤ (rI p 57 3).toInt)) => ?_)
    ·
      refine hp_s (pc' := 82) (st' := [.ref 57]) rfl rfl rfl ?_
      refine hp_s (pc' := 83) (st' := [.ref 57, .ref 57]) rfl rfl rfl ?_
      refine hp_get (k := 3) (pc' := 86) (v := (rI p 57 3)) rfl rfl rfl rfl rfl rfl ?_
      refine hp_s (pc' := 87) (st' := [.int 1, .int (rI p 57 3), .ref 57]) rfl rfl rfl ?_
      refine hp_z (pc' := 88) (e := (rI p 57 3) + 1) (st' := [.ref 57]) rfl rfl rfl ?_
      intro z5 hz5
      have ez5 := i_add hz5 (show (rI p 57 3).toInt = (rI p 57 3).toInt from rfl) (show (1 : Int32).toInt = 1 from by decide)
      refine hp_put (k := 3) (pc' := 91) rfl rfl rfl rfl rfl ?_
      intro p1 wp1 ep1
      have eB : p1 = hB1 p 70 := (by subst_vars; unfold hB1; first | rw [if_pos (by omega)] | rw [if_neg (by omega)])
      refine hp_s (pc' := 92) (st' := [.ref 57]) rfl rfl rfl ?_
      refine hp_s (pc' := 94) (st' := [.int 70, .ref 57]) rfl rfl rfl ?_
      refine hp_s (pc' := 95) (st' := [.int x, .int 70, .ref 57]) rfl rfl rfl ?_
      refine hp_s (pc' := 97) (st' := [.int v, .int x, .int 70, .ref 57]) rfl rfl rfl ?_
      refine hp_s (pc' := 98) (st' := [.int 1, .int v, .int x, .int 70, .ref 57]) rfl rfl rfl ?_
      refine hp_z (pc' := 99) (e := v + 1) (st' := [.int x, .int 70, .ref 57]) rfl rfl rfl ?_
      intro z6 hz6
      have ez6 := i_add hz6 (show v.toInt = v.toInt from rfl) (show (1 : Int32).toInt = 1 from by decide)
      refine hp_cv (r := 57) (o := 9) (kd := 1) (as := [.int 70, .int x, .int z6]) (rest := []) (pc' := 102) rfl rfl rfl rfl rfl rfl rfl rfl rfl (fun d1 => ?_)
      refine s_run70 hro (xi := x.toInt) rfl (vi := z6.toInt) rfl (by first | with_reducible assumption | omega | (rw [eB]; exact hKi_1 pre2) | (subst_vars; with_reducible (repeat (first | assumption | apply hKi_g)))) (by first | with_reducible assumption | omega | (rw [eB]; exact hKi_1 pre2) | (subst_vars; with_reducible (repeat (first | assumption | apply hKi_g)))) (by first | with_reducible assumption | omega | (rw [eB]; exact hKi_1 pre2) | (subst_vars; with_reducible (repeat (first | assumption | apply hKi_g)))) ?_
      intro y1 p2 h5 h6
      have qz := h5
      have qp := h6
      refine hp_id (st := [.int y1]) ?_
      refine hp_ri rfl rfl ?_
      first | (exact k0 _ _ (by first | (rw [qz, eB]; first | (rw [gO_1, gA_1]; rfl) | (rw [gA_1]; rfl) | rfl) | (rw [qp, eB]; first | (rw [gO_1]; rfl) | rfl)) (by first | (rw [qz, eB]; first | (rw [gO_1, gA_1]; rfl) | (rw [gA_1]; rfl) | rfl) | (rw [qp, eB]; first | (rw [gO_1]; rfl) | rfl))) | (exfalso; omega)
    ·
      refine hp_s (pc' := 71) (st' := [.ref 57]) rfl rfl rfl ?_
      refine hp_getr (k := 2) (w := .ref 59) (pc' := 74) rfl rfl rfl rfl rfl ?_
      refine hp_s (pc' := 75) (st' := [.ref 57, .ref 59]) rfl rfl rfl ?_
      refine hp_get (k := 3) (pc' := 78) (v := (rI p 57 3)) rfl rfl rfl rfl rfl rfl ?_
      refine hp_s (pc' := 80) (st' := [.int 70, .int (rI p 57 3), .ref 59]) rfl rfl rfl ?_
      refine hp_st (t := 100) rfl (.inl rfl) rfl rfl ?_
      intro p3 wp3 (p3a : 0 ≤ (rI p 57 3).toInt) (p3b : (rI p 57 3).toInt < 24) ep3
      refine hp_s (pc' := 82) (st' := [.ref 57]) rfl rfl rfl ?_
      refine hp_s (pc' := 83) (st' := [.ref 57, .ref 57]) rfl rfl rfl ?_
      refine hp_get (k := 3) (pc' := 86) (v := (rI p 57 3)) rfl rfl rfl rfl rfl (by rw [ep3, rI_o (by decide)]) ?_
      refine hp_s (pc' := 87) (st' := [.int 1, .int (rI p 57 3), .ref 57]) rfl rfl rfl ?_
      refine hp_z (pc' := 88) (e := (rI p 57 3) + 1) (st' := [.ref 57]) rfl rfl rfl ?_
      intro z7 hz7
      have ez7 := i_add hz7 (show (rI p 57 3).toInt = (rI p 57 3).toInt from rfl) (show (1 : Int32).toInt = 1 from by decide)
      refine hp_put (k := 3) (pc' := 91) rfl rfl rfl rfl rfl ?_
      intro p4 wp4 ep4
      have eB : p4 = hB1 p 70 := (by subst_vars; unfold hB1; first | rw [if_pos (by omega)] | rw [if_neg (by omega)])
      refine hp_s (pc' := 92) (st' := [.ref 57]) rfl rfl rfl ?_
      refine hp_s (pc' := 94) (st' := [.int 70, .ref 57]) rfl rfl rfl ?_
      refine hp_s (pc' := 95) (st' := [.int x, .int 70, .ref 57]) rfl rfl rfl ?_
      refine hp_s (pc' := 97) (st' := [.int v, .int x, .int 70, .ref 57]) rfl rfl rfl ?_
      refine hp_s (pc' := 98) (st' := [.int 1, .int v, .int x, .int 70, .ref 57]) rfl rfl rfl ?_
      refine hp_z (pc' := 99) (e := v + 1) (st' := [.int x, .int 70, .ref 57]) rfl rfl rfl ?_
      intro z8 hz8
      have ez8 := i_add hz8 (show v.toInt = v.toInt from rfl) (show (1 : Int32).toInt = 1 from by decide)
      refine hp_cv (r := 57) (o := 9) (kd := 1) (as := [.int 70, .int x, .int z8]) (rest := []) (pc' := 102) rfl rfl rfl rfl rfl rfl rfl rfl rfl (fun d2 => ?_)
      refine s_run70 hro (xi := x.toInt) rfl (vi := z8.toInt) rfl (by first | with_reducible assumption | omega | (rw [eB]; exact hKi_1 pre2) | (subst_vars; with_reducible (repeat (first | assumption | apply hKi_g)))) (by first | with_reducible assumption | omega | (rw [eB]; exact hKi_1 pre2) | (subst_vars; with_reducible (repeat (first | assumption | apply hKi_g)))) (by first | with_reducible assumption | omega | (rw [eB]; exact hKi_1 pre2) | (subst_vars; with_reducible (repeat (first | assumption | apply hKi_g)))) ?_
      intro y2 p5 h7 h8
      have qz := h7
      have qp := h8
      refine hp_id (st := [.int y2]) ?_
      refine hp_ri rfl rfl ?_
      first | (exact k0 _ _ (by first | (rw [qz, eB]; first | (rw [gO_1, gA_1]; rfl) | (rw [gA_1]; rfl) | rfl) | (rw [qp, eB]; first | (rw [gO_1]; rfl) | rfl)) (by first | (rw [qz, eB]; first | (rw [gO_1, gA_1]; rfl) | (rw [gA_1]; rfl) | rfl) | (rw [qp, eB]; first | (rw [gO_1]; rfl) | rfl))) | (exfalso; omega)
  ·
    refine hp_s (pc' := 8) (st' := [.int 0]) rfl rfl rfl ?_
    refine hp_ri rfl rfl ?_
    first | (exact k0 _ _ (by first | (rw [qz, eB]; first | (rw [gO_1, gA_1]; rfl) | (rw [gA_1]; rfl) | rfl) | (rw [qp, eB]; first | (rw [gO_1]; rfl) | rfl)) (by first | (rw [qz, eB]; first | (rw [gO_1, gA_1]; rfl) | (rw [gA_1]; rfl) | rfl) | (rw [qp, eB]; first | (rw [gO_1]; rfl) | rfl))) | (exfalso; omega)
theorem s_from7_0 {ro : List (List Int32)} {n d : Nat} {p : xH} {Q : Option Value → xH → Prop} {x : Int32} {xi : Int} {v : Int32} {vi : Int} (hro : jro ro) (hx : x.toInt = xi) (hv : v.toInt = vi) (pre0 : 0 ≤ vi) (pre1 : vi ≤ 39) (pre2 : hKi p) (k0 : ∀ z : Int32, ∀ p2 : xH, (z = aL 7 (gA p) x) → (p2 = hBg p (nL 7)) → Q (some (.int z)) p2) : hP ro n d (9, 7, 1, 1, k115) 0 (lv_args 0 [.ref 57, .int 7, .int 0, .int x, .int v]) [] p Q := by
  subst hx
  subst hv
  refine hp_id (ls := [(0, .ref 57), (1, .int 7), (2, .int 0), (3, .int x), (4, .int v)]) ?_
  refine hp_s (pc' := 2) (st' := [.int v]) rfl rfl rfl ?_
  refine hp_s (pc' := 4) (st' := [.int 40, .int v]) rfl rfl rfl ?_
  refine hp_ic (pc' := 7) (t := 9) (a := v.toInt) (b := 40) rfl rfl rfl rfl (by decide) (fun (h1 : v.toInt ≤ 40) => ?_) (fun (h2 : ¬ (v.toInt ≤ 40)) => ?_)
  ·
    refine hp_s (pc' := 10) (st' := [.int 7]) rfl rfl rfl ?_
    refine hp_s (pc' := 12) (ls' := [(5, .int 7), (0, .ref 57), (1, .int 7), (2, .int 0), (3, .int x), (4, .int v)]) (st' := []) rfl rfl rfl ?_
    refine hp_s (pc' := 13) (st' := [.int 0]) rfl rfl rfl ?_
    refine hp_s (pc' := 15) (ls' := [(6, .int 0), (5, .int 7), (0, .ref 57), (1, .int 7), (2, .int 0), (3, .int x), (4, .int v)]) (st' := []) rfl rfl rfl ?_
    refine hp_s (pc' := 17) (st' := [.int 0]) rfl rfl rfl ?_
    refine hp_s (pc' := 19) (st' := [.int 8, .int 0]) rfl rfl rfl ?_
    refine hp_go (pc' := 22) rfl rfl rfl ?_
    refine hp_sta (k := 2) (pc' := 25) rfl rfl rfl ?_
    refine hp_s (pc' := 27) (st' := [.int 7, .retAddr 2]) rfl rfl rfl ?_
    refine hp_s (pc' := 28) (st' := [.int 4, .int 7, .retAddr 2]) rfl rfl rfl ?_
    refine hp_s (pc' := 29) (st' := [.int 28, .retAddr 2]) rfl rfl rfl ?_
    refine hp_s (pc' := 30) (st' := [.int 0, .int 28, .retAddr 2]) rfl rfl rfl ?_
    refine hp_s (pc' := 31) (st' := [.int 28, .retAddr 2]) rfl rfl rfl ?_
    refine hp_lds (v := 0) hro.2 rfl rfl (by decide +kernel) ?_
    intro g1a g1b
    refine hp_go (pc' := 35) rfl rfl rfl ?_
    refine hp_sta (k := 1) (pc' := 38) rfl rfl rfl ?_
    refine hp_s (pc' := 40) (st' := [.int 7, .retAddr 1]) rfl rfl rfl ?_
    refine hp_lds (v := 4) hro.1 rfl rfl (by decide +kernel) ?_
    intro g2a g2b
    refine hp_s (pc' := 43) (ls' := [(5, .int 4), (6, .int 0), (0, .ref 57), (1, .int 7), (2, .int 0), (3, .int x), (4, .int v)]) (st' := []) rfl rfl rfl ?_
    refine hp_s (pc' := 46) (ls' := [(6, .int 1), (5, .int 4), (0, .ref 57), (1, .int 7), (2, .int 0), (3, .int x), (4, .int v)]) (st' := []) rfl rfl rfl ?_
    refine hp_go (pc' := 15) rfl rfl rfl ?_
    refine hp_s (pc' := 17) (st' := [.int 1]) rfl rfl rfl ?_
    refine hp_s (pc' := 19) (st' := [.int 8, .int 1]) rfl rfl rfl ?_
    refine hp_go (pc' := 22) rfl rfl rfl ?_
    refine hp_sta (k := 2) (pc' := 25) rfl rfl rfl ?_
    refine hp_s (pc' := 27) (st' := [.int 4, .retAddr 2]) rfl rfl rfl ?_
    refine hp_s (pc' := 28) (st' := [.int 4, .int 4, .retAddr 2]) rfl rfl rfl ?_
    refine hp_s (pc' := 29) (st' := [.int 16, .retAddr 2]) rfl rfl rfl ?_
    refine hp_s (pc' := 30) (st' := [.int 0, .int 16, .retAddr 2]) rfl rfl rfl ?_
    refine hp_s (pc' := 31) (st' := [.int 16, .retAddr 2]) rfl rfl rfl ?_
    refine hp_lds (v := 0) hro.2 rfl rfl (by decide +kernel) ?_
    intro g3a g3b
    refine hp_go (pc' := 35) rfl rfl rfl ?_
    refine hp_sta (k := 1) (pc' := 38) rfl rfl rfl ?_
    refine hp_s (pc' := 40) (st' := [.int 4, .retAddr 1]) rfl rfl rfl ?_
    refine hp_lds (v := 1) hro.1 rfl rfl (by decide +kernel) ?_
    intro g4a g4b
    refine hp_s (pc' := 43) (ls' := [(5, .int 1), (6, .int 1), (0, .ref 57), (1, .int 7), (2, .int 0), (3, .int x), (4, .int v)]) (st' := []) rfl rfl rfl ?_
    refine hp_s (pc' := 46) (ls' := [(6, .int 2), (5, .int 1), (0, .ref 57), (1, .int 7), (2, .int 0), (3, .int x), (4, .int v)]) (st' := []) rfl rfl rfl ?_
    refine hp_go (pc' := 15) rfl rfl rfl ?_
    refine hp_s (pc' := 17) (st' := [.int 2]) rfl rfl rfl ?_
    refine hp_s (pc' := 19) (st' := [.int 8, .int 2]) rfl rfl rfl ?_
    refine hp_go (pc' := 22) rfl rfl rfl ?_
    refine hp_sta (k := 2) (pc' := 25) rfl rfl rfl ?_
    refine hp_s (pc' := 27) (st' := [.int 1, .retAddr 2]) rfl rfl rfl ?_
    refine hp_s (pc' := 28) (st' := [.int 4, .int 1, .retAddr 2]) rfl rfl rfl ?_
    refine hp_s (pc' := 29) (st' := [.int 4, .retAddr 2]) rfl rfl rfl ?_
    refine hp_s (pc' := 30) (st' := [.int 0, .int 4, .retAddr 2]) rfl rfl rfl ?_
    refine hp_s (pc' := 31) (st' := [.int 4, .retAddr 2]) rfl rfl rfl ?_
    refine hp_lds (v := 20) hro.2 rfl rfl (by decide +kernel) ?_
    intro g5a g5b
    refine hp_go (pc' := 49) rfl rfl rfl ?_
    refine hp_sta (k := 2) (pc' := 52) rfl rfl rfl ?_
    refine hp_s (pc' := 54) (st' := [.int 1, .retAddr 2]) rfl rfl rfl ?_
    refine hp_s (pc' := 55) (st' := [.int 4, .int 1, .retAddr 2]) rfl rfl rfl ?_
    refine hp_s (pc' := 56) (st' := [.int 4, .retAddr 2]) rfl rfl rfl ?_
    refine hp_s (pc' := 57) (st' := [.int 0, .int 4, .retAddr 2]) rfl rfl rfl ?_
    refine hp_s (pc' := 58) (st' := [.int 4, .retAddr 2]) rfl rfl rfl ?_
    refine hp_lds (v := 20) hro.2 rfl rfl (by decide +kernel) ?_
    intro g6a g6b
    refine hp_s (pc' := 61) (ls' := [(6, .int 20), (5, .int 1), (0, .ref 57), (1, .int 7), (2, .int 0), (3, .int x), (4, .int v)]) (st' := []) rfl rfl rfl ?_
    refine hp_s (pc' := 62) (st' := [.ref 57]) rfl rfl rfl ?_
    refine hp_get (k := 3) (pc' := 65) (v := (rI p 57 3)) rfl rfl rfl rfl rfl rfl ?_
    refine hp_s (pc' := 67) (st' := [.int 24, .int (rI p 57 3)]) rfl rfl rfl ?_
    refine hp_ic (pc' := 70) (t := 81) (a := (rI p 57 3).toInt) (b := 24) rfl rfl rfl rfl (by decide) (fun (h3 : 24 ≤ (rI p 57 3).toInt) => ?_) (fun (h4 : ¬ (24 ≤ (rI p 57 3).toInt)) => ?_)
    ·
      refine hp_s (pc' := 82) (st' := [.ref 57]) rfl rfl rfl ?_
      refine hp_s (pc' := 83) (st' := [.ref 57, .ref 57]) rfl rfl rfl ?_
      refine hp_get (k := 3) (pc' := 86) (v := (rI p 57 3)) rfl rfl rfl rfl rfl rfl ?_
      refine hp_s (pc' := 87) (st' := [.int 1, .int (rI p 57 3), .ref 57]) rfl rfl rfl ?_
      refine hp_z (pc' := 88) (e := (rI p 57 3) + 1) (st' := [.ref 57]) rfl rfl rfl ?_
      intro z11 hz11
      have ez11 := i_add hz11 (show (rI p 57 3).toInt = (rI p 57 3).toInt from rfl) (show (1 : Int32).toInt = 1 from by decide)
      refine hp_put (k := 3) (pc' := 91) rfl rfl rfl rfl rfl ?_
      intro p1 wp1 ep1
      have eB : p1 = hB1 p 20 := (by subst_vars; unfold hB1; first | rw [if_pos (by omega)] | rw [if_neg (by omega)])
      refine hp_s (pc' := 92) (st' := [.ref 57]) rfl rfl rfl ?_
      refine hp_s (pc' := 94) (st' := [.int 20, .ref 57]) rfl rfl rfl ?_
      refine hp_s (pc' := 95) (st' := [.int x, .int 20, .ref 57]) rfl rfl rfl ?_
      refine hp_s (pc' := 97) (st' := [.int v, .int x, .int 20, .ref 57]) rfl rfl rfl ?_
      refine hp_s (pc' := 98) (st' := [.int 1, .int v, .int x, .int 20, .ref 57]) rfl rfl rfl ?_
      refine hp_z (pc' := 99) (e := v + 1) (st' := [.int x, .int 20, .ref 57]) rfl rfl rfl ?_
      intro z12 hz12
      have ez12 := i_add hz12 (show v.toInt = v.toInt from rfl) (show (1 : Int32).toInt = 1 from by decide)
      refine hp_cv (r := 57) (o := 9) (kd := 1) (as := [.int 20, .int x, .int z12]) (rest := []) (pc' := 102) rfl rfl rfl rfl rfl rfl rfl rfl rfl (fun d1 => ?_)
      refine s_run20 hro (xi := x.toInt) rfl (vi := z12.toInt) rfl (by first | with_reducible assumption | omega | (rw [eB]; exact hKi_1 pre2) | (subst_vars; with_reducible (repeat (first | assumption | apply hKi_g)))) (by first | with_reducible assumption | omega | (rw [eB]; exact hKi_1 pre2) | (subst_vars; with_reducible (repeat (first | assumption | apply hKi_g)))) (by first | with_reducible assumption | omega | (rw [eB]; exact hKi_1 pre2) | (subst_vars; with_reducible (repeat (first | assumption | apply hKi_g)))) ?_
      intro y1 p2 h5 h6
      have qz := h5
      have qp := h6
      refine hp_id (st := [.int y1]) ?_
      refine hp_ri rfl rfl ?_
      first | (exact k0 _ _ (by first | (rw [qz, eB]; first | (rw [gO_1, gA_1]; rfl) | (rw [gA_1]; rfl) | rfl) | (rw [qp, eB]; first | (rw [gO_1]; rfl) | rfl)) (by first | (rw [qz, eB]; first | (rw [gO_1, gA_1]; rfl) | (rw [gA_1]; rfl) | rfl) | (rw [qp, eB]; first | (rw [gO_1]; rfl) | rfl))) | (exfalso; omega)
    ·
      refine hp_s (pc' := 71) (st' := [.ref 57]) rfl rfl rfl ?_
      refine hp_getr (k := 2) (w := .ref 59) (pc' := 74) rfl rfl rfl rfl rfl ?_
      refine hp_s (pc' := 75) (st' := [.ref 57, .ref 59]) rfl rfl rfl ?_
      refine hp_get (k := 3) (pc' := 78) (v := (rI p 57 3)) rfl rfl rfl rfl rfl rfl ?_
      refine hp_s (pc' := 80) (st' := [.int 20, .int (rI p 57 3), .ref 59]) rfl rfl rfl ?_
      refine hp_st (t := 100) rfl (.inl rfl) rfl rfl ?_
      intro p3 wp3 (p3a : 0 ≤ (rI p 57 3).toInt) (p3b : (rI p 57 3).toInt < 24) ep3
      refine hp_s (pc' := 82) (st' := [.ref 57]) rfl rfl rfl ?_
      refine hp_s (pc' := 83) (st' := [.ref 57, .ref 57]) rfl rfl rfl ?_
      refine hp_get (k := 3) (pc' := 86) (v := (rI p 57 3)) rfl rfl rfl rfl rfl (by rw [ep3, rI_o (by decide)]) ?_
      refine hp_s (pc' := 87) (st' := [.int 1, .int (rI p 57 3), .ref 57]) rfl rfl rfl ?_
      refine hp_z (pc' := 88) (e := (rI p 57 3) + 1) (st' := [.ref 57]) rfl rfl rfl ?_
      intro z13 hz13
      have ez13 := i_add hz13 (show (rI p 57 3).toInt = (rI p 57 3).toInt from rfl) (show (1 : Int32).toInt = 1 from by decide)
      refine hp_put (k := 3) (pc' := 91) rfl rfl rfl rfl rfl ?_
      intro p4 wp4 ep4
      have eB : p4 = hB1 p 20 := (by subst_vars; unfold hB1; first | rw [if_pos (by omega)] | rw [if_neg (by omega)])
      refine hp_s (pc' := 92) (st' := [.ref 57]) rfl rfl rfl ?_
      refine hp_s (pc' := 94) (st' := [.int 20, .ref 57]) rfl rfl rfl ?_
      refine hp_s (pc' := 95) (st' := [.int x, .int 20, .ref 57]) rfl rfl rfl ?_
      refine hp_s (pc' := 97) (st' := [.int v, .int x, .int 20, .ref 57]) rfl rfl rfl ?_
      refine hp_s (pc' := 98) (st' := [.int 1, .int v, .int x, .int 20, .ref 57]) rfl rfl rfl ?_
      refine hp_z (pc' := 99) (e := v + 1) (st' := [.int x, .int 20, .ref 57]) rfl rfl rfl ?_
      intro z14 hz14
      have ez14 := i_add hz14 (show v.toInt = v.toInt from rfl) (show (1 : Int32).toInt = 1 from by decide)
      refine hp_cv (r := 57) (o := 9) (kd := 1) (as := [.int 20, .int x, .int z14]) (rest := []) (pc' := 102) rfl rfl rfl rfl rfl rfl rfl rfl rfl (fun d2 => ?_)
      refine s_run20 hro (xi := x.toInt) rfl (vi := z14.toInt) rfl (by first | with_reducible assumption | omega | (rw [eB]; exact hKi_1 pre2) | (subst_vars; with_reducible (repeat (first | assumption | apply hKi_g)))) (by first | with_reducible assumption | omega | (rw [eB]; exact hKi_1 pre2) | (subst_vars; with_reducible (repeat (first | assumption | apply hKi_g)))) (by first | with_reducible assumption | omega | (rw [eB]; exact hKi_1 pre2) | (subst_vars; with_reducible (repeat (first | assumption | apply hKi_g)))) ?_
      intro y2 p5 h7 h8
      have qz := h7
      have qp := h8
      refine hp_id (st := [.int y2]) ?_
      refine hp_ri rfl rfl ?_
      first | (exact k0 _ _ (by first | (rw [qz, eB]; first | (rw [gO_1, gA_1]; rfl) | (rw [gA_1]; rfl) | rfl) | (rw [qp, eB]; first | (rw [gO_1]; rfl) | rfl)) (by first | (rw [qz, eB]; first | (rw [gO_1, gA_1]; rfl) | (rw [gA_1]; rfl) | rfl) | (rw [qp, eB]; first | (rw [gO_1]; rfl) | rfl))) | (exfalso; omega)
  ·
    refine hp_s (pc' := 8) (st' := [.int 0]) rfl rfl rfl ?_
    refine hp_ri rfl rfl ?_
    first | (exact k0 _ _ (by first | (rw [qz, eB]; first | (rw [gO_1, gA_1]; rfl) | (rw [gA_1]; rfl) | rfl) | (rw [qp, eB]; first | (rw [gO_1]; rfl) | rfl)) (by first | (rw [qz, eB]; first | (rw [gO_1, gA_1]; rfl) | (rw [gA_1]; rfl) | rfl) | (rw [qp, eB]; first | (rw [gO_1]; rfl) | rfl))) | (exfalso; omega)
theorem s_fromA_0 {ro : List (List Int32)} {n d : Nat} {p : xH} {Q : Option Value → xH → Prop} {kd : Int32} {kdi : Int} {x : Int32} {xi : Int} {v : Int32} {vi : Int} (hro : jro ro) (hk : kd.toInt = kdi) (hx : x.toInt = xi) (hv : v.toInt = vi) (pre0 : 0 ≤ kdi) (pre1 : kdi < 8) (pre2 : 0 ≤ vi) (pre3 : vi ≤ 39) (pre4 : hKi p) (k0 : ∀ z : Int32, ∀ p2 : xH, (z = aL kdi (gA p) x) → (p2 = hBg p (nL kdi)) → Q (some (.int z)) p2) : hP ro n d (9, 7, 1, 1, k115) 0 (lv_args 0 [.ref 57, .int kd, .int 0, .int x, .int v]) [] p Q := by
  have h8 : kdi = 0 ∨ kdi = 1 ∨ kdi = 2 ∨ kdi = 3 ∨ kdi = 4 ∨ kdi = 5 ∨ kdi = 6 ∨ kdi = 7 := by omega
  rcases h8 with e | e | e | e | e | e | e | e
  · have e2 : kd = 0 := Int32.toInt_inj.mp (by rw [hk, e]; decide)
    subst e2; subst e; exact s_from0_0 hro hx hv pre2 (by omega) pre4 k0
  · have e2 : kd = 1 := Int32.toInt_inj.mp (by rw [hk, e]; decide)
    subst e2; subst e; exact s_from1_0 hro hx hv pre2 (by omega) pre4 k0
  · have e2 : kd = 2 := Int32.toInt_inj.mp (by rw [hk, e]; decide)
    subst e2; subst e; exact s_from2_0 hro hx hv pre2 (by omega) pre4 k0
  · have e2 : kd = 3 := Int32.toInt_inj.mp (by rw [hk, e]; decide)
    subst e2; subst e; exact s_from3_0 hro hx hv pre2 (by omega) pre4 k0
  · have e2 : kd = 4 := Int32.toInt_inj.mp (by rw [hk, e]; decide)
    subst e2; subst e; exact s_from4_0 hro hx hv pre2 (by omega) pre4 k0
  · have e2 : kd = 5 := Int32.toInt_inj.mp (by rw [hk, e]; decide)
    subst e2; subst e; exact s_from5_0 hro hx hv pre2 (by omega) pre4 k0
  · have e2 : kd = 6 := Int32.toInt_inj.mp (by rw [hk, e]; decide)
    subst e2; subst e; exact s_from6_0 hro hx hv pre2 (by omega) pre4 k0
  · have e2 : kd = 7 := Int32.toInt_inj.mp (by rw [hk, e]; decide)
    subst e2; subst e; exact s_from7_0 hro hx hv pre2 (by omega) pre4 k0
theorem s_own0 {ro : List (List Int32)} {n d : Nat} {p : xH} {Q : Option Value → xH → Prop} {x : Int32} {xi : Int} {v : Int32} {vi : Int} (hro : jro ro) (hx : x.toInt = xi) (hv : v.toInt = vi) (pre0 : 0 ≤ vi) (pre1 : vi ≤ 39) (pre2 : hKi p) (k0 : ∀ z : Int32, ∀ p2 : xH, (z = aL (gO p) (gA p) x) → (p2 = hBg p (nL (gO p))) → Q (some (.int z)) p2) : hP ro n d (9, 4, 1, 1, k114) 0 (lv_args 0 [.ref 57, .int 0, .int x, .int v]) [] p Q := by
  subst hx
  subst hv
  refine hp_id (ls := [(0, .ref 57), (1, .int 0), (2, .int x), (3, .int v)]) ?_
  refine hp_s (pc' := 1) (st' := [.ref 57]) rfl rfl rfl ?_
  refine hp_s (pc' := 2) (st' := [.ref 57, .ref 57]) rfl rfl rfl ?_
  refine hp_getr (k := 0) (w := .ref 58) (pc' := 5) rfl rfl rfl rfl rfl ?_
  refine hp_s (pc' := 6) (st' := [.ref 57, .ref 58, .ref 57]) rfl rfl rfl ?_
  refine hp_get (k := 4) (pc' := 9) (v := (rI p 57 4)) rfl rfl rfl rfl rfl rfl ?_
  refine hp_ld (t := 100) (v := (rI p 58 (rI p 57 4).toInt.toNat)) rfl (.inl rfl) rfl rfl rfl ?_
  intro (g1a : 0 ≤ (rI p 57 4).toInt) (g1b : (rI p 57 4).toInt < 50)
  refine hp_s (pc' := 11) (st' := [.int 0, .int ((rI p 58 (rI p 57 4).toInt.toNat)), .ref 57]) rfl rfl rfl ?_
  refine hp_s (pc' := 12) (st' := [.int x, .int 0, .int ((rI p 58 (rI p 57 4).toInt.toNat)), .ref 57]) rfl rfl rfl ?_
  refine hp_s (pc' := 13) (st' := [.int v, .int x, .int 0, .int ((rI p 58 (rI p 57 4).toInt.toNat)), .ref 57]) rfl rfl rfl ?_
  refine hp_cv (r := 57) (o := 9) (kd := 1) (as := [.int ((rI p 58 (rI p 57 4).toInt.toNat)), .int 0, .int x, .int v]) (rest := []) (pc' := 16) rfl rfl rfl rfl rfl rfl rfl rfl rfl (fun d1 => ?_)
  refine s_fromA_0 hro (kdi := ((rI p 58 (rI p 57 4).toInt.toNat)).toInt) rfl (xi := x.toInt) rfl (vi := v.toInt) rfl (by first | with_reducible assumption | omega | exact (pre2 _).1 | exact (pre2 _).2) (by first | with_reducible assumption | omega | exact (pre2 _).1 | exact (pre2 _).2) (by first | with_reducible assumption | omega | exact (pre2 _).1 | exact (pre2 _).2) (by first | with_reducible assumption | omega | exact (pre2 _).1 | exact (pre2 _).2) (by first | with_reducible assumption | omega | exact (pre2 _).1 | exact (pre2 _).2) ?_
  intro y1 p1 h1 h2
  refine hp_id (st := [.int y1]) ?_
  refine hp_ri rfl rfl ?_
  first | (exact k0 _ _ (by assumption) (by assumption)) | (exfalso; omega)
theorem s_run10 {ro : List (List Int32)} {n d : Nat} {p : xH} {Q : Option Value → xH → Prop} {x : Int32} {xi : Int} {v : Int32} {vi : Int} (hro : jro ro) (hx : x.toInt = xi) (hv : v.toInt = vi) (pre0 : 0 ≤ vi) (pre1 : vi ≤ 39) (pre2 : hKi p) (k0 : ∀ z : Int32, ∀ p2 : xH, (z = (aL (gO p) (gA p) x) * 2) → (p2 = hBg p (nL (gO p))) → Q (some (.int z)) p2) : hP ro n d (9, 7, 1, 1, k116) 0 (lv_args 0 [.ref 57, .int 10, .int x, .int v]) [] p Q := by
  subst hx
  subst hv
  refine hp_id (ls := [(0, .ref 57), (1, .int 10), (2, .int x), (3, .int v)]) ?_
  refine hp_s (pc' := 1) (st' := [.int 10]) rfl rfl rfl ?_
  refine hp_go (pc' := 143) rfl rfl rfl ?_
  refine hp_s (pc' := 144) (st' := [.ref 57]) rfl rfl rfl ?_
  refine hp_s (pc' := 145) (st' := [.int 0, .ref 57]) rfl rfl rfl ?_
  refine hp_s (pc' := 146) (st' := [.int x, .int 0, .ref 57]) rfl rfl rfl ?_
  refine hp_s (pc' := 147) (st' := [.int v, .int x, .int 0, .ref 57]) rfl rfl rfl ?_
  refine hp_cv (r := 57) (o := 9) (kd := 1) (as := [.int 0, .int x, .int v]) (rest := []) (pc' := 150) rfl rfl rfl rfl rfl rfl rfl rfl rfl (fun d1 => ?_)
  refine s_own0 hro (xi := x.toInt) rfl (vi := v.toInt) rfl (by first | with_reducible assumption | omega | (rw [eB]; exact hKi_1 pre2) | (subst_vars; with_reducible (repeat (first | assumption | apply hKi_g)))) (by first | with_reducible assumption | omega | (rw [eB]; exact hKi_1 pre2) | (subst_vars; with_reducible (repeat (first | assumption | apply hKi_g)))) (by first | with_reducible assumption | omega | (rw [eB]; exact hKi_1 pre2) | (subst_vars; with_reducible (repeat (first | assumption | apply hKi_g)))) ?_
  intro y1 p1 h1 h2
  refine hp_id (st := [.int y1]) ?_
  refine hp_s (pc' := 151) (st' := [.int 2, .int y1]) rfl rfl rfl ?_
  refine hp_z (pc' := 152) (e := y1 * 2) (st' := []) rfl rfl rfl ?_
  intro z1 hz1
  have ez1 := i_mul hz1 (show y1.toInt = y1.toInt from rfl) (show (2 : Int32).toInt = 2 from by decide)
  refine hp_ri rfl rfl ?_
  first | (exact k0 _ _ (by first | assumption | (subst_vars; first | rfl | (simp only [gO_g, gA_g, hBg_app]; done) | (simp only [gO_g, gA_g, hBg_app]; rfl))) (by first | assumption | (subst_vars; first | rfl | (simp only [gO_g, gA_g, hBg_app]; done) | (simp only [gO_g, gA_g, hBg_app]; rfl)))) | (exfalso; omega)
theorem s_from0_1 {ro : List (List Int32)} {n d : Nat} {p : xH} {Q : Option Value → xH → Prop} {x : Int32} {xi : Int} {v : Int32} {vi : Int} (hro : jro ro) (hx : x.toInt = xi) (hv : v.toInt = vi) (pre0 : 0 ≤ vi) (pre1 : vi ≤ 38) (pre2 : hKi p) (k0 : ∀ z : Int32, ∀ p2 : xH, (z = aW (gO p) 0 (gA p) x) → (p2 = hBg p (nW (gO p) 0)) → Q (some (.int z)) p2) : hP ro n d (9, 7, 1, 1, k115) 0 (lv_args 0 [.ref 57, .int 0, .int 1, .int x, .int v]) [] p Q := by
  subst hx
  subst hv
  refine hp_id (ls := [(0, .ref 57), (1, .int 0), (2, .int 1), (3, .int x), (4, .int v)]) ?_
  refine hp_s (pc' := 2) (st' := [.int v]) rfl rfl rfl ?_
  refine hp_s (pc' := 4) (st' := [.int 40, .int v]) rfl rfl rfl ?_
  refine hp_ic (pc' := 7) (t := 9) (a := v.toInt) (b := 40) rfl rfl rfl rfl (by decide) (fun (h1 : v.toInt ≤ 40) => ?_) (fun (h2 : ¬ (v.toInt ≤ 40)) => ?_)
  ·
    refine hp_s (pc' := 10) (st' := [.int 0]) rfl rfl rfl ?_
    refine hp_s (pc' := 12) (ls' := [(5, .int 0), (0, .ref 57), (1, .int 0), (2, .int 1), (3, .int x), (4, .int v)]) (st' := []) rfl rfl rfl ?_
    refine hp_s (pc' := 13) (st' := [.int 0]) rfl rfl rfl ?_
    refine hp_s (pc' := 15) (ls' := [(6, .int 0), (5, .int 0), (0, .ref 57), (1, .int 0), (2, .int 1), (3, .int x), (4, .int v)]) (st' := []) rfl rfl rfl ?_
    refine hp_s (pc' := 17) (st' := [.int 0]) rfl rfl rfl ?_
    refine hp_s (pc' := 19) (st' := [.int 8, .int 0]) rfl rfl rfl ?_
    refine hp_go (pc' := 22) rfl rfl rfl ?_
    refine hp_sta (k := 2) (pc' := 25) rfl rfl rfl ?_
    refine hp_s (pc' := 27) (st' := [.int 0, .retAddr 2]) rfl rfl rfl ?_
    refine hp_s (pc' := 28) (st' := [.int 4, .int 0, .retAddr 2]) rfl rfl rfl ?_
    refine hp_s (pc' := 29) (st' := [.int 0, .retAddr 2]) rfl rfl rfl ?_
    refine hp_s (pc' := 30) (st' := [.int 1, .int 0, .retAddr 2]) rfl rfl rfl ?_
    refine hp_s (pc' := 31) (st' := [.int 1, .retAddr 2]) rfl rfl rfl ?_
    refine hp_lds (v := 10) hro.2 rfl rfl (by decide +kernel) ?_
    intro g1a g1b
    refine hp_go (pc' := 49) rfl rfl rfl ?_
    refine hp_sta (k := 2) (pc' := 52) rfl rfl rfl ?_
    refine hp_s (pc' := 54) (st' := [.int 0, .retAddr 2]) rfl rfl rfl ?_
    refine hp_s (pc' := 55) (st' := [.int 4, .int 0, .retAddr 2]) rfl rfl rfl ?_
    refine hp_s (pc' := 56) (st' := [.int 0, .retAddr 2]) rfl rfl rfl ?_
    refine hp_s (pc' := 57) (st' := [.int 1, .int 0, .retAddr 2]) rfl rfl rfl ?_
    refine hp_s (pc' := 58) (st' := [.int 1, .retAddr 2]) rfl rfl rfl ?_
    refine hp_lds (v := 10) hro.2 rfl rfl (by decide +kernel) ?_
    intro g2a g2b
    refine hp_s (pc' := 61) (ls' := [(6, .int 10), (5, .int 0), (0, .ref 57), (1, .int 0), (2, .int 1), (3, .int x), (4, .int v)]) (st' := []) rfl rfl rfl ?_
    refine hp_s (pc' := 62) (st' := [.ref 57]) rfl rfl rfl ?_
    refine hp_get (k := 3) (pc' := 65) (v := (rI p 57 3)) rfl rfl rfl rfl rfl rfl ?_
    refine hp_s (pc' := 67) (st' := [.int 24, .int (rI p 57 3)]) rfl rfl rfl ?_
    refine hp_ic (pc' := 70) (t := 81) (a := (rI p 57 3).toInt) (b := 24) rfl rfl rfl rfl (by decide) (fun (h3 : 24 ≤ (rI p 57 3).toInt) => ?_) (fun (h4 : ¬ (24 ≤ (rI p 57 3).toInt)) => ?_)
    ·
      refine hp_s (pc' := 82) (st' := [.ref 57]) rfl rfl rfl ?_
      refine hp_s (pc' := 83) (st' := [.ref 57, .ref 57]) rfl rfl rfl ?_
      refine hp_get (k := 3) (pc' := 86) (v := (rI p 57 3)) rfl rfl rfl rfl rfl rfl ?_
      refine hp_s (pc' := 87) (st' := [.int 1, .int (rI p 57 3), .ref 57]) rfl rfl rfl ?_
      refine hp_z (pc' := 88) (e := (rI p 57 3) + 1) (st' := [.ref 57]) rfl rfl rfl ?_
      intro z5 hz5
      have ez5 := i_add hz5 (show (rI p 57 3).toInt = (rI p 57 3).toInt from rfl) (show (1 : Int32).toInt = 1 from by decide)
      refine hp_put (k := 3) (pc' := 91) rfl rfl rfl rfl rfl ?_
      intro p1 wp1 ep1
      have eB : p1 = hB1 p 10 := (by subst_vars; unfold hB1; first | rw [if_pos (by omega)] | rw [if_neg (by omega)])
      refine hp_s (pc' := 92) (st' := [.ref 57]) rfl rfl rfl ?_
      refine hp_s (pc' := 94) (st' := [.int 10, .ref 57]) rfl rfl rfl ?_
      refine hp_s (pc' := 95) (st' := [.int x, .int 10, .ref 57]) rfl rfl rfl ?_
      refine hp_s (pc' := 97) (st' := [.int v, .int x, .int 10, .ref 57]) rfl rfl rfl ?_
      refine hp_s (pc' := 98) (st' := [.int 1, .int v, .int x, .int 10, .ref 57]) rfl rfl rfl ?_
      refine hp_z (pc' := 99) (e := v + 1) (st' := [.int x, .int 10, .ref 57]) rfl rfl rfl ?_
      intro z6 hz6
      have ez6 := i_add hz6 (show v.toInt = v.toInt from rfl) (show (1 : Int32).toInt = 1 from by decide)
      refine hp_cv (r := 57) (o := 9) (kd := 1) (as := [.int 10, .int x, .int z6]) (rest := []) (pc' := 102) rfl rfl rfl rfl rfl rfl rfl rfl rfl (fun d1 => ?_)
      refine s_run10 hro (xi := x.toInt) rfl (vi := z6.toInt) rfl (by first | with_reducible assumption | omega | (rw [eB]; exact hKi_1 pre2) | (subst_vars; with_reducible (repeat (first | assumption | apply hKi_g)))) (by first | with_reducible assumption | omega | (rw [eB]; exact hKi_1 pre2) | (subst_vars; with_reducible (repeat (first | assumption | apply hKi_g)))) (by first | with_reducible assumption | omega | (rw [eB]; exact hKi_1 pre2) | (subst_vars; with_reducible (repeat (first | assumption | apply hKi_g)))) ?_
      intro y1 p2 h5 h6
      have qz := h5
      have qp := h6
      refine hp_id (st := [.int y1]) ?_
      refine hp_ri rfl rfl ?_
      first | (exact k0 _ _ (by first | (rw [qz, eB]; first | (rw [gO_1, gA_1]; rfl) | (rw [gA_1]; rfl) | rfl) | (rw [qp, eB]; first | (rw [gO_1]; rfl) | rfl)) (by first | (rw [qz, eB]; first | (rw [gO_1, gA_1]; rfl) | (rw [gA_1]; rfl) | rfl) | (rw [qp, eB]; first | (rw [gO_1]; rfl) | rfl))) | (exfalso; omega)
    ·
      refine hp_s (pc' := 71) (st' := [.ref 57]) rfl rfl rfl ?_
      refine hp_getr (k := 2) (w := .ref 59) (pc' := 74) rfl rfl rfl rfl rfl ?_
      refine hp_s (pc' := 75) (st' := [.ref 57, .ref 59]) rfl rfl rfl ?_
      refine hp_get (k := 3) (pc' := 78) (v := (rI p 57 3)) rfl rfl rfl rfl rfl rfl ?_
      refine hp_s (pc' := 80) (st' := [.int 10, .int (rI p 57 3), .ref 59]) rfl rfl rfl ?_
      refine hp_st (t := 100) rfl (.inl rfl) rfl rfl ?_
      intro p3 wp3 (p3a : 0 ≤ (rI p 57 3).toInt) (p3b : (rI p 57 3).toInt < 24) ep3
      refine hp_s (pc' := 82) (st' := [.ref 57]) rfl rfl rfl ?_
      refine hp_s (pc' := 83) (st' := [.ref 57, .ref 57]) rfl rfl rfl ?_
      refine hp_get (k := 3) (pc' := 86) (v := (rI p 57 3)) rfl rfl rfl rfl rfl (by rw [ep3, rI_o (by decide)]) ?_
      refine hp_s (pc' := 87) (st' := [.int 1, .int (rI p 57 3), .ref 57]) rfl rfl rfl ?_
      refine hp_z (pc' := 88) (e := (rI p 57 3) + 1) (st' := [.ref 57]) rfl rfl rfl ?_
      intro z7 hz7
      have ez7 := i_add hz7 (show (rI p 57 3).toInt = (rI p 57 3).toInt from rfl) (show (1 : Int32).toInt = 1 from by decide)
      refine hp_put (k := 3) (pc' := 91) rfl rfl rfl rfl rfl ?_
      intro p4 wp4 ep4
      have eB : p4 = hB1 p 10 := (by subst_vars; unfold hB1; first | rw [if_pos (by omega)] | rw [if_neg (by omega)])
      refine hp_s (pc' := 92) (st' := [.ref 57]) rfl rfl rfl ?_
      refine hp_s (pc' := 94) (st' := [.int 10, .ref 57]) rfl rfl rfl ?_
      refine hp_s (pc' := 95) (st' := [.int x, .int 10, .ref 57]) rfl rfl rfl ?_
      refine hp_s (pc' := 97) (st' := [.int v, .int x, .int 10, .ref 57]) rfl rfl rfl ?_
      refine hp_s (pc' := 98) (st' := [.int 1, .int v, .int x, .int 10, .ref 57]) rfl rfl rfl ?_
      refine hp_z (pc' := 99) (e := v + 1) (st' := [.int x, .int 10, .ref 57]) rfl rfl rfl ?_
      intro z8 hz8
      have ez8 := i_add hz8 (show v.toInt = v.toInt from rfl) (show (1 : Int32).toInt = 1 from by decide)
      refine hp_cv (r := 57) (o := 9) (kd := 1) (as := [.int 10, .int x, .int z8]) (rest := []) (pc' := 102) rfl rfl rfl rfl rfl rfl rfl rfl rfl (fun d2 => ?_)
      refine s_run10 hro (xi := x.toInt) rfl (vi := z8.toInt) rfl (by first | with_reducible assumption | omega | (rw [eB]; exact hKi_1 pre2) | (subst_vars; with_reducible (repeat (first | assumption | apply hKi_g)))) (by first | with_reducible assumption | omega | (rw [eB]; exact hKi_1 pre2) | (subst_vars; with_reducible (repeat (first | assumption | apply hKi_g)))) (by first | with_reducible assumption | omega | (rw [eB]; exact hKi_1 pre2) | (subst_vars; with_reducible (repeat (first | assumption | apply hKi_g)))) ?_
      intro y2 p5 h7 h8
      have qz := h7
      have qp := h8
      refine hp_id (st := [.int y2]) ?_
      refine hp_ri rfl rfl ?_
      first | (exact k0 _ _ (by first | (rw [qz, eB]; first | (rw [gO_1, gA_1]; rfl) | (rw [gA_1]; rfl) | rfl) | (rw [qp, eB]; first | (rw [gO_1]; rfl) | rfl)) (by first | (rw [qz, eB]; first | (rw [gO_1, gA_1]; rfl) | (rw [gA_1]; rfl) | rfl) | (rw [qp, eB]; first | (rw [gO_1]; rfl) | rfl))) | (exfalso; omega)
  ·
    refine hp_s (pc' := 8) (st' := [.int 0]) rfl rfl rfl ?_
    refine hp_ri rfl rfl ?_
    first | (exact k0 _ _ (by first | (rw [qz, eB]; first | (rw [gO_1, gA_1]; rfl) | (rw [gA_1]; rfl) | rfl) | (rw [qp, eB]; first | (rw [gO_1]; rfl) | rfl)) (by first | (rw [qz, eB]; first | (rw [gO_1, gA_1]; rfl) | (rw [gA_1]; rfl) | rfl) | (rw [qp, eB]; first | (rw [gO_1]; rfl) | rfl))) | (exfalso; omega)
theorem s_from1_1 {ro : List (List Int32)} {n d : Nat} {p : xH} {Q : Option Value → xH → Prop} {x : Int32} {xi : Int} {v : Int32} {vi : Int} (hro : jro ro) (hx : x.toInt = xi) (hv : v.toInt = vi) (pre0 : 0 ≤ vi) (pre1 : vi ≤ 38) (pre2 : hKi p) (k0 : ∀ z : Int32, ∀ p2 : xH, (z = aW (gO p) 1 (gA p) x) → (p2 = hBg p (nW (gO p) 1)) → Q (some (.int z)) p2) : hP ro n d (9, 7, 1, 1, k115) 0 (lv_args 0 [.ref 57, .int 1, .int 1, .int x, .int v]) [] p Q := by
  subst hx
  subst hv
  refine hp_id (ls := [(0, .ref 57), (1, .int 1), (2, .int 1), (3, .int x), (4, .int v)]) ?_
  refine hp_s (pc' := 2) (st' := [.int v]) rfl rfl rfl ?_
  refine hp_s (pc' := 4) (st' := [.int 40, .int v]) rfl rfl rfl ?_
  refine hp_ic (pc' := 7) (t := 9) (a := v.toInt) (b := 40) rfl rfl rfl rfl (by decide) (fun (h1 : v.toInt ≤ 40) => ?_) (fun (h2 : ¬ (v.toInt ≤ 40)) => ?_)
  ·
    refine hp_s (pc' := 10) (st' := [.int 1]) rfl rfl rfl ?_
    refine hp_s (pc' := 12) (ls' := [(5, .int 1), (0, .ref 57), (1, .int 1), (2, .int 1), (3, .int x), (4, .int v)]) (st' := []) rfl rfl rfl ?_
    refine hp_s (pc' := 13) (st' := [.int 0]) rfl rfl rfl ?_
    refine hp_s (pc' := 15) (ls' := [(6, .int 0), (5, .int 1), (0, .ref 57), (1, .int 1), (2, .int 1), (3, .int x), (4, .int v)]) (st' := []) rfl rfl rfl ?_
    refine hp_s (pc' := 17) (st' := [.int 0]) rfl rfl rfl ?_
    refine hp_s (pc' := 19) (st' := [.int 8, .int 0]) rfl rfl rfl ?_
    refine hp_go (pc' := 22) rfl rfl rfl ?_
    refine hp_sta (k := 2) (pc' := 25) rfl rfl rfl ?_
    refine hp_s (pc' := 27) (st' := [.int 1, .retAddr 2]) rfl rfl rfl ?_
    refine hp_s (pc' := 28) (st' := [.int 4, .int 1, .retAddr 2]) rfl rfl rfl ?_
    refine hp_s (pc' := 29) (st' := [.int 4, .retAddr 2]) rfl rfl rfl ?_
    refine hp_s (pc' := 30) (st' := [.int 1, .int 4, .retAddr 2]) rfl rfl rfl ?_
    refine hp_s (pc' := 31) (st' := [.int 5, .retAddr 2]) rfl rfl rfl ?_
    refine hp_lds (v := 0) hro.2 rfl rfl (by decide +kernel) ?_
    intro g1a g1b
    refine hp_go (pc' := 35) rfl rfl rfl ?_
    refine hp_sta (k := 1) (pc' := 38) rfl rfl rfl ?_
    refine hp_s (pc' := 40) (st' := [.int 1, .retAddr 1]) rfl rfl rfl ?_
    refine hp_lds (v := 0) hro.1 rfl rfl (by decide +kernel) ?_
    intro g2a g2b
    refine hp_s (pc' := 43) (ls' := [(5, .int 0), (6, .int 0), (0, .ref 57), (1, .int 1), (2, .int 1), (3, .int x), (4, .int v)]) (st' := []) rfl rfl rfl ?_
    refine hp_s (pc' := 46) (ls' := [(6, .int 1), (5, .int 0), (0, .ref 57), (1, .int 1), (2, .int 1), (3, .int x), (4, .int v)]) (st' := []) rfl rfl rfl ?_
    refine hp_go (pc' := 15) rfl rfl rfl ?_
    refine hp_s (pc' := 17) (st' := [.int 1]) rfl rfl rfl ?_
    refine hp_s (pc' := 19) (st' := [.int 8, .int 1]) rfl rfl rfl ?_
    refine hp_go (pc' := 22) rfl rfl rfl ?_
    refine hp_sta (k := 2) (pc' := 25) rfl rfl rfl ?_
    refine hp_s (pc' := 27) (st' := [.int 0, .retAddr 2]) rfl rfl rfl ?_
    refine hp_s (pc' := 28) (st' := [.int 4, .int 0, .retAddr 2]) rfl rfl rfl ?_
    refine hp_s (pc' := 29) (st' := [.int 0, .retAddr 2]) rfl rfl rfl ?_
    refine hp_s (pc' := 30) (st' := [.int 1, .int 0, .retAddr 2]) rfl rfl rfl ?_
    refine hp_s (pc' := 31) (st' := [.int 1, .retAddr 2]) rfl rfl rfl ?_
    refine hp_lds (v := 10) hro.2 rfl rfl (by decide +kernel) ?_
    intro g3a g3b
    refine hp_go (pc' := 49) rfl rfl rfl ?_
    refine hp_sta (k := 2) (pc' := 52) rfl rfl rfl ?_
    refine hp_s (pc' := 54) (st' := [.int 0, .retAddr 2]) rfl rfl rfl ?_
    refine hp_s (pc' := 55) (st' := [.int 4, .int 0, .retAddr 2]) rfl rfl rfl ?_
    refine hp_s (pc' := 56) (st' := [.int 0, .retAddr 2]) rfl rfl rfl ?_
    refine hp_s (pc' := 57) (st' := [.int 1, .int 0, .retAddr 2]) rfl rfl rfl ?_
    refine hp_s (pc' := 58) (st' := [.int 1, .retAddr 2]) rfl rfl rfl ?_
    refine hp_lds (v := 10) hro.2 rfl rfl (by decide +kernel) ?_
    intro g4a g4b
    refine hp_s (pc' := 61) (ls' := [(6, .int 10), (5, .int 0), (0, .ref 57), (1, .int 1), (2, .int 1), (3, .int x), (4, .int v)]) (st' := []) rfl rfl rfl ?_
    refine hp_s (pc' := 62) (st' := [.ref 57]) rfl rfl rfl ?_
    refine hp_get (k := 3) (pc' := 65) (v := (rI p 57 3)) rfl rfl rfl rfl rfl rfl ?_
    refine hp_s (pc' := 67) (st' := [.int 24, .int (rI p 57 3)]) rfl rfl rfl ?_
    refine hp_ic (pc' := 70) (t := 81) (a := (rI p 57 3).toInt) (b := 24) rfl rfl rfl rfl (by decide) (fun (h3 : 24 ≤ (rI p 57 3).toInt) => ?_) (fun (h4 : ¬ (24 ≤ (rI p 57 3).toInt)) => ?_)
    ·
      refine hp_s (pc' := 82) (st' := [.ref 57]) rfl rfl rfl ?_
      refine hp_s (pc' := 83) (st' := [.ref 57, .ref 57]) rfl rfl rfl ?_
      refine hp_get (k := 3) (pc' := 86) (v := (rI p 57 3)) rfl rfl rfl rfl rfl rfl ?_
      refine hp_s (pc' := 87) (st' := [.int 1, .int (rI p 57 3), .ref 57]) rfl rfl rfl ?_
      refine hp_z (pc' := 88) (e := (rI p 57 3) + 1) (st' := [.ref 57]) rfl rfl rfl ?_
      intro z8 hz8
      have ez8 := i_add hz8 (show (rI p 57 3).toInt = (rI p 57 3).toInt from rfl) (show (1 : Int32).toInt = 1 from by decide)
      refine hp_put (k := 3) (pc' := 91) rfl rfl rfl rfl rfl ?_
      intro p1 wp1 ep1
      have eB : p1 = hB1 p 10 := (by subst_vars; unfold hB1; first | rw [if_pos (by omega)] | rw [if_neg (by omega)])
      refine hp_s (pc' := 92) (st' := [.ref 57]) rfl rfl rfl ?_
      refine hp_s (pc' := 94) (st' := [.int 10, .ref 57]) rfl rfl rfl ?_
      refine hp_s (pc' := 95) (st' := [.int x, .int 10, .ref 57]) rfl rfl rfl ?_
      refine hp_s (pc' := 97) (st' := [.int v, .int x, .int 10, .ref 57]) rfl rfl rfl ?_
      refine hp_s (pc' := 98) (st' := [.int 1, .int v, .int x, .int 10, .ref 57]) rfl rfl rfl ?_
      refine hp_z (pc' := 99) (e := v + 1) (st' := [.int x, .int 10, .ref 57]) rfl rfl rfl ?_
      intro z9 hz9
      have ez9 := i_add hz9 (show v.toInt = v.toInt from rfl) (show (1 : Int32).toInt = 1 from by decide)
      refine hp_cv (r := 57) (o := 9) (kd := 1) (as := [.int 10, .int x, .int z9]) (rest := []) (pc' := 102) rfl rfl rfl rfl rfl rfl rfl rfl rfl (fun d1 => ?_)
      refine s_run10 hro (xi := x.toInt) rfl (vi := z9.toInt) rfl (by first | with_reducible assumption | omega | (rw [eB]; exact hKi_1 pre2) | (subst_vars; with_reducible (repeat (first | assumption | apply hKi_g)))) (by first | with_reducible assumption | omega | (rw [eB]; exact hKi_1 pre2) | (subst_vars; with_reducible (repeat (first | assumption | apply hKi_g)))) (by first | with_reducible assumption | omega | (rw [eB]; exact hKi_1 pre2) | (subst_vars; with_reducible (repeat (first | assumption | apply hKi_g)))) ?_
      intro y1 p2 h5 h6
      have qz := h5
      have qp := h6
      refine hp_id (st := [.int y1]) ?_
      refine hp_ri rfl rfl ?_
      first | (exact k0 _ _ (by first | (rw [qz, eB]; first | (rw [gO_1, gA_1]; rfl) | (rw [gA_1]; rfl) | rfl) | (rw [qp, eB]; first | (rw [gO_1]; rfl) | rfl)) (by first | (rw [qz, eB]; first | (rw [gO_1, gA_1]; rfl) | (rw [gA_1]; rfl) | rfl) | (rw [qp, eB]; first | (rw [gO_1]; rfl) | rfl))) | (exfalso; omega)
    ·
      refine hp_s (pc' := 71) (st' := [.ref 57]) rfl rfl rfl ?_
      refine hp_getr (k := 2) (w := .ref 59) (pc' := 74) rfl rfl rfl rfl rfl ?_
      refine hp_s (pc' := 75) (st' := [.ref 57, .ref 59]) rfl rfl rfl ?_
      refine hp_get (k := 3) (pc' := 78) (v := (rI p 57 3)) rfl rfl rfl rfl rfl rfl ?_
      refine hp_s (pc' := 80) (st' := [.int 10, .int (rI p 57 3), .ref 59]) rfl rfl rfl ?_
      refine hp_st (t := 100) rfl (.inl rfl) rfl rfl ?_
      intro p3 wp3 (p3a : 0 ≤ (rI p 57 3).toInt) (p3b : (rI p 57 3).toInt < 24) ep3
      refine hp_s (pc' := 82) (st' := [.ref 57]) rfl rfl rfl ?_
      refine hp_s (pc' := 83) (st' := [.ref 57, .ref 57]) rfl rfl rfl ?_
      refine hp_get (k := 3) (pc' := 86) (v := (rI p 57 3)) rfl rfl rfl rfl rfl (by rw [ep3, rI_o (by decide)]) ?_
      refine hp_s (pc' := 87) (st' := [.int 1, .int (rI p 57 3), .ref 57]) rfl rfl rfl ?_
      refine hp_z (pc' := 88) (e := (rI p 57 3) + 1) (st' := [.ref 57]) rfl rfl rfl ?_
      intro z10 hz10
      have ez10 := i_add hz10 (show (rI p 57 3).toInt = (rI p 57 3).toInt from rfl) (show (1 : Int32).toInt = 1 from by decide)
      refine hp_put (k := 3) (pc' := 91) rfl rfl rfl rfl rfl ?_
      intro p4 wp4 ep4
      have eB : p4 = hB1 p 10 := (by subst_vars; unfold hB1; first | rw [if_pos (by omega)] | rw [if_neg (by omega)])
      refine hp_s (pc' := 92) (st' := [.ref 57]) rfl rfl rfl ?_
      refine hp_s (pc' := 94) (st' := [.int 10, .ref 57]) rfl rfl rfl ?_
      refine hp_s (pc' := 95) (st' := [.int x, .int 10, .ref 57]) rfl rfl rfl ?_
      refine hp_s (pc' := 97) (st' := [.int v, .int x, .int 10, .ref 57]) rfl rfl rfl ?_
      refine hp_s (pc' := 98) (st' := [.int 1, .int v, .int x, .int 10, .ref 57]) rfl rfl rfl ?_
      refine hp_z (pc' := 99) (e := v + 1) (st' := [.int x, .int 10, .ref 57]) rfl rfl rfl ?_
      intro z11 hz11
      have ez11 := i_add hz11 (show v.toInt = v.toInt from rfl) (show (1 : Int32).toInt = 1 from by decide)
      refine hp_cv (r := 57) (o := 9) (kd := 1) (as := [.int 10, .int x, .int z11]) (rest := []) (pc' := 102) rfl rfl rfl rfl rfl rfl rfl rfl rfl (fun d2 => ?_)
      refine s_run10 hro (xi := x.toInt) rfl (vi := z11.toInt) rfl (by first | with_reducible assumption | omega | (rw [eB]; exact hKi_1 pre2) | (subst_vars; with_reducible (repeat (first | assumption | apply hKi_g)))) (by first | with_reducible assumption | omega | (rw [eB]; exact hKi_1 pre2) | (subst_vars; with_reducible (repeat (first | assumption | apply hKi_g)))) (by first | with_reducible assumption | omega | (rw [eB]; exact hKi_1 pre2) | (subst_vars; with_reducible (repeat (first | assumption | apply hKi_g)))) ?_
      intro y2 p5 h7 h8
      have qz := h7
      have qp := h8
      refine hp_id (st := [.int y2]) ?_
      refine hp_ri rfl rfl ?_
      first | (exact k0 _ _ (by first | (rw [qz, eB]; first | (rw [gO_1, gA_1]; rfl) | (rw [gA_1]; rfl) | rfl) | (rw [qp, eB]; first | (rw [gO_1]; rfl) | rfl)) (by first | (rw [qz, eB]; first | (rw [gO_1, gA_1]; rfl) | (rw [gA_1]; rfl) | rfl) | (rw [qp, eB]; first | (rw [gO_1]; rfl) | rfl))) | (exfalso; omega)
  ·
    refine hp_s (pc' := 8) (st' := [.int 0]) rfl rfl rfl ?_
    refine hp_ri rfl rfl ?_
    first | (exact k0 _ _ (by first | (rw [qz, eB]; first | (rw [gO_1, gA_1]; rfl) | (rw [gA_1]; rfl) | rfl) | (rw [qp, eB]; first | (rw [gO_1]; rfl) | rfl)) (by first | (rw [qz, eB]; first | (rw [gO_1, gA_1]; rfl) | (rw [gA_1]; rfl) | rfl) | (rw [qp, eB]; first | (rw [gO_1]; rfl) | rfl))) | (exfalso; omega)
theorem s_run30 {ro : List (List Int32)} {n d : Nat} {p : xH} {Q : Option Value → xH → Prop} {x : Int32} {xi : Int} {v : Int32} {vi : Int} (hro : jro ro) (hx : x.toInt = xi) (hv : v.toInt = vi) (pre0 : 0 ≤ vi) (pre1 : vi ≤ 38) (pre2 : hKi p) (k0 : ∀ z : Int32, ∀ p2 : xH, (z = -(aW (gO p) 0 (gA p) x)) → (p2 = hBg p (nW (gO p) 0)) → Q (some (.int z)) p2) : hP ro n d (9, 7, 1, 1, k116) 0 (lv_args 0 [.ref 57, .int 30, .int x, .int v]) [] p Q := by
  subst hx
  subst hv
  refine hp_id (ls := [(0, .ref 57), (1, .int 30), (2, .int x), (3, .int v)]) ?_
  refine hp_s (pc' := 1) (st' := [.int 30]) rfl rfl rfl ?_
  refine hp_go (pc' := 171) rfl rfl rfl ?_
  refine hp_s (pc' := 172) (st' := [.ref 57]) rfl rfl rfl ?_
  refine hp_s (pc' := 173) (st' := [.int 0, .ref 57]) rfl rfl rfl ?_
  refine hp_s (pc' := 174) (st' := [.int 1, .int 0, .ref 57]) rfl rfl rfl ?_
  refine hp_s (pc' := 175) (st' := [.int x, .int 1, .int 0, .ref 57]) rfl rfl rfl ?_
  refine hp_s (pc' := 176) (st' := [.int v, .int x, .int 1, .int 0, .ref 57]) rfl rfl rfl ?_
  refine hp_cv (r := 57) (o := 9) (kd := 1) (as := [.int 0, .int 1, .int x, .int v]) (rest := []) (pc' := 179) rfl rfl rfl rfl rfl rfl rfl rfl rfl (fun d1 => ?_)
  refine s_from0_1 hro (xi := x.toInt) rfl (vi := v.toInt) rfl (by first | with_reducible assumption | omega | (rw [eB]; exact hKi_1 pre2) | (subst_vars; with_reducible (repeat (first | assumption | apply hKi_g)))) (by first | with_reducible assumption | omega | (rw [eB]; exact hKi_1 pre2) | (subst_vars; with_reducible (repeat (first | assumption | apply hKi_g)))) (by first | with_reducible assumption | omega | (rw [eB]; exact hKi_1 pre2) | (subst_vars; with_reducible (repeat (first | assumption | apply hKi_g)))) ?_
  intro y1 p1 h1 h2
  refine hp_id (st := [.int y1]) ?_
  refine hp_z (pc' := 180) (e := -y1) (st' := []) rfl rfl rfl ?_
  intro z1 hz1
  have ez1 := i_neg hz1 (show y1.toInt = y1.toInt from rfl)
  refine hp_ri rfl rfl ?_
  first | (exact k0 _ _ (by first | assumption | (subst_vars; first | rfl | (simp only [gO_g, gA_g, hBg_app]; done) | (simp only [gO_g, gA_g, hBg_app]; rfl))) (by first | assumption | (subst_vars; first | rfl | (simp only [gO_g, gA_g, hBg_app]; done) | (simp only [gO_g, gA_g, hBg_app]; rfl)))) | (exfalso; omega)
theorem s_from2_1 {ro : List (List Int32)} {n d : Nat} {p : xH} {Q : Option Value → xH → Prop} {x : Int32} {xi : Int} {v : Int32} {vi : Int} (hro : jro ro) (hx : x.toInt = xi) (hv : v.toInt = vi) (pre0 : 0 ≤ vi) (pre1 : vi ≤ 37) (pre2 : hKi p) (k0 : ∀ z : Int32, ∀ p2 : xH, (z = aW (gO p) 2 (gA p) x) → (p2 = hBg p (nW (gO p) 2)) → Q (some (.int z)) p2) : hP ro n d (9, 7, 1, 1, k115) 0 (lv_args 0 [.ref 57, .int 2, .int 1, .int x, .int v]) [] p Q := by
  subst hx
  subst hv
  refine hp_id (ls := [(0, .ref 57), (1, .int 2), (2, .int 1), (3, .int x), (4, .int v)]) ?_
  refine hp_s (pc' := 2) (st' := [.int v]) rfl rfl rfl ?_
  refine hp_s (pc' := 4) (st' := [.int 40, .int v]) rfl rfl rfl ?_
  refine hp_ic (pc' := 7) (t := 9) (a := v.toInt) (b := 40) rfl rfl rfl rfl (by decide) (fun (h1 : v.toInt ≤ 40) => ?_) (fun (h2 : ¬ (v.toInt ≤ 40)) => ?_)
  ·
    refine hp_s (pc' := 10) (st' := [.int 2]) rfl rfl rfl ?_
    refine hp_s (pc' := 12) (ls' := [(5, .int 2), (0, .ref 57), (1, .int 2), (2, .int 1), (3, .int x), (4, .int v)]) (st' := []) rfl rfl rfl ?_
    refine hp_s (pc' := 13) (st' := [.int 0]) rfl rfl rfl ?_
    refine hp_s (pc' := 15) (ls' := [(6, .int 0), (5, .int 2), (0, .ref 57), (1, .int 2), (2, .int 1), (3, .int x), (4, .int v)]) (st' := []) rfl rfl rfl ?_
    refine hp_s (pc' := 17) (st' := [.int 0]) rfl rfl rfl ?_
    refine hp_s (pc' := 19) (st' := [.int 8, .int 0]) rfl rfl rfl ?_
    refine hp_go (pc' := 22) rfl rfl rfl ?_
    refine hp_sta (k := 2) (pc' := 25) rfl rfl rfl ?_
    refine hp_s (pc' := 27) (st' := [.int 2, .retAddr 2]) rfl rfl rfl ?_
    refine hp_s (pc' := 28) (st' := [.int 4, .int 2, .retAddr 2]) rfl rfl rfl ?_
    refine hp_s (pc' := 29) (st' := [.int 8, .retAddr 2]) rfl rfl rfl ?_
    refine hp_s (pc' := 30) (st' := [.int 1, .int 8, .retAddr 2]) rfl rfl rfl ?_
    refine hp_s (pc' := 31) (st' := [.int 9, .retAddr 2]) rfl rfl rfl ?_
    refine hp_lds (v := 30) hro.2 rfl rfl (by decide +kernel) ?_
    intro g1a g1b
    refine hp_go (pc' := 49) rfl rfl rfl ?_
    refine hp_sta (k := 2) (pc' := 52) rfl rfl rfl ?_
    refine hp_s (pc' := 54) (st' := [.int 2, .retAddr 2]) rfl rfl rfl ?_
    refine hp_s (pc' := 55) (st' := [.int 4, .int 2, .retAddr 2]) rfl rfl rfl ?_
    refine hp_s (pc' := 56) (st' := [.int 8, .retAddr 2]) rfl rfl rfl ?_
    refine hp_s (pc' := 57) (st' := [.int 1, .int 8, .retAddr 2]) rfl rfl rfl ?_
    refine hp_s (pc' := 58) (st' := [.int 9, .retAddr 2]) rfl rfl rfl ?_
    refine hp_lds (v := 30) hro.2 rfl rfl (by decide +kernel) ?_
    intro g2a g2b
    refine hp_s (pc' := 61) (ls' := [(6, .int 30), (5, .int 2), (0, .ref 57), (1, .int 2), (2, .int 1), (3, .int x), (4, .int v)]) (st' := []) rfl rfl rfl ?_
    refine hp_s (pc' := 62) (st' := [.ref 57]) rfl rfl rfl ?_
    refine hp_get (k := 3) (pc' := 65) (v := (rI p 57 3)) rfl rfl rfl rfl rfl rfl ?_
    refine hp_s (pc' := 67) (st' := [.int 24, .int (rI p 57 3)]) rfl rfl rfl ?_
    refine hp_ic (pc' := 70) (t := 81) (a := (rI p 57 3).toInt) (b := 24) rfl rfl rfl rfl (by decide) (fun (h3 : 24 ≤ (rI p 57 3).toInt) => ?_) (fun (h4 : ¬ (24 ≤ (rI p 57 3).toInt)) => ?_)
    ·
      refine hp_s (pc' := 82) (st' := [.ref 57]) rfl rfl rfl ?_
      refine hp_s (pc' := 83) (st' := [.ref 57, .ref 57]) rfl rfl rfl ?_
      refine hp_get (k := 3) (pc' := 86) (v := (rI p 57 3)) rfl rfl rfl rfl rfl rfl ?_
      refine hp_s (pc' := 87) (st' := [.int 1, .int (rI p 57 3), .ref 57]) rfl rfl rfl ?_
      refine hp_z (pc' := 88) (e := (rI p 57 3) + 1) (st' := [.ref 57]) rfl rfl rfl ?_
      intro z5 hz5
      have ez5 := i_add hz5 (show (rI p 57 3).toInt = (rI p 57 3).toInt from rfl) (show (1 : Int32).toInt = 1 from by decide)
      refine hp_put (k := 3) (pc' := 91) rfl rfl rfl rfl rfl ?_
      intro p1 wp1 ep1
      have eB : p1 = hB1 p 30 := (by subst_vars; unfold hB1; first | rw [if_pos (by omega)] | rw [if_neg (by omega)])
      refine hp_s (pc' := 92) (st' := [.ref 57]) rfl rfl rfl ?_
      refine hp_s (pc' := 94) (st' := [.int 30, .ref 57]) rfl rfl rfl ?_
      refine hp_s (pc' := 95) (st' := [.int x, .int 30, .ref 57]) rfl rfl rfl ?_
      refine hp_s (pc' := 97) (st' := [.int v, .int x, .int 30, .ref 57]) rfl rfl rfl ?_
      refine hp_s (pc' := 98) (st' := [.int 1, .int v, .int x, .int 30, .ref 57]) rfl rfl rfl ?_
      refine hp_z (pc' := 99) (e := v + 1) (st' := [.int x, .int 30, .ref 57]) rfl rfl rfl ?_
      intro z6 hz6
      have ez6 := i_add hz6 (show v.toInt = v.toInt from rfl) (show (1 : Int32).toInt = 1 from by decide)
      refine hp_cv (r := 57) (o := 9) (kd := 1) (as := [.int 30, .int x, .int z6]) (rest := []) (pc' := 102) rfl rfl rfl rfl rfl rfl rfl rfl rfl (fun d1 => ?_)
      refine s_run30 hro (xi := x.toInt) rfl (vi := z6.toInt) rfl (by first | with_reducible assumption | omega | (rw [eB]; exact hKi_1 pre2) | (subst_vars; with_reducible (repeat (first | assumption | apply hKi_g)))) (by first | with_reducible assumption | omega | (rw [eB]; exact hKi_1 pre2) | (subst_vars; with_reducible (repeat (first | assumption | apply hKi_g)))) (by first | with_reducible assumption | omega | (rw [eB]; exact hKi_1 pre2) | (subst_vars; with_reducible (repeat (first | assumption | apply hKi_g)))) ?_
      intro y1 p2 h5 h6
      have qz := h5
      have qp := h6
      refine hp_id (st := [.int y1]) ?_
      refine hp_ri rfl rfl ?_
      first | (exact k0 _ _ (by first | (rw [qz, eB]; first | (rw [gO_1, gA_1]; rfl) | (rw [gA_1]; rfl) | rfl) | (rw [qp, eB]; first | (rw [gO_1]; rfl) | rfl)) (by first | (rw [qz, eB]; first | (rw [gO_1, gA_1]; rfl) | (rw [gA_1]; rfl) | rfl) | (rw [qp, eB]; first | (rw [gO_1]; rfl) | rfl))) | (exfalso; omega)
    ·
      refine hp_s (pc' := 71) (st' := [.ref 57]) rfl rfl rfl ?_
      refine hp_getr (k := 2) (w := .ref 59) (pc' := 74) rfl rfl rfl rfl rfl ?_
      refine hp_s (pc' := 75) (st' := [.ref 57, .ref 59]) rfl rfl rfl ?_
      refine hp_get (k := 3) (pc' := 78) (v := (rI p 57 3)) rfl rfl rfl rfl rfl rfl ?_
      refine hp_s (pc' := 80) (st' := [.int 30, .int (rI p 57 3), .ref 59]) rfl rfl rfl ?_
      refine hp_st (t := 100) rfl (.inl rfl) rfl rfl ?_
      intro p3 wp3 (p3a : 0 ≤ (rI p 57 3).toInt) (p3b : (rI p 57 3).toInt < 24) ep3
      refine hp_s (pc' := 82) (st' := [.ref 57]) rfl rfl rfl ?_
      refine hp_s (pc' := 83) (st' := [.ref 57, .ref 57]) rfl rfl rfl ?_
      refine hp_get (k := 3) (pc' := 86) (v := (rI p 57 3)) rfl rfl rfl rfl rfl (by rw [ep3, rI_o (by decide)]) ?_
      refine hp_s (pc' := 87) (st' := [.int 1, .int (rI p 57 3), .ref 57]) rfl rfl rfl ?_
      refine hp_z (pc' := 88) (e := (rI p 57 3) + 1) (st' := [.ref 57]) rfl rfl rfl ?_
      intro z7 hz7
      have ez7 := i_add hz7 (show (rI p 57 3).toInt = (rI p 57 3).toInt from rfl) (show (1 : Int32).toInt = 1 from by decide)
      refine hp_put (k := 3) (pc' := 91) rfl rfl rfl rfl rfl ?_
      intro p4 wp4 ep4
      have eB : p4 = hB1 p 30 := (by subst_vars; unfold hB1; first | rw [if_pos (by omega)] | rw [if_neg (by omega)])
      refine hp_s (pc' := 92) (st' := [.ref 57]) rfl rfl rfl ?_
      refine hp_s (pc' := 94) (st' := [.int 30, .ref 57]) rfl rfl rfl ?_
      refine hp_s (pc' := 95) (st' := [.int x, .int 30, .ref 57]) rfl rfl rfl ?_
      refine hp_s (pc' := 97) (st' := [.int v, .int x, .int 30, .ref 57]) rfl rfl rfl ?_
      refine hp_s (pc' := 98) (st' := [.int 1, .int v, .int x, .int 30, .ref 57]) rfl rfl rfl ?_
      refine hp_z (pc' := 99) (e := v + 1) (st' := [.int x, .int 30, .ref 57]) rfl rfl rfl ?_
      intro z8 hz8
      have ez8 := i_add hz8 (show v.toInt = v.toInt from rfl) (show (1 : Int32).toInt = 1 from by decide)
      refine hp_cv (r := 57) (o := 9) (kd := 1) (as := [.int 30, .int x, .int z8]) (rest := []) (pc' := 102) rfl rfl rfl rfl rfl rfl rfl rfl rfl (fun d2 => ?_)
      refine s_run30 hro (xi := x.toInt) rfl (vi := z8.toInt) rfl (by first | with_reducible assumption | omega | (rw [eB]; exact hKi_1 pre2) | (subst_vars; with_reducible (repeat (first | assumption | apply hKi_g)))) (by first | with_reducible assumption | omega | (rw [eB]; exact hKi_1 pre2) | (subst_vars; with_reducible (repeat (first | assumption | apply hKi_g)))) (by first | with_reducible assumption | omega | (rw [eB]; exact hKi_1 pre2) | (subst_vars; with_reducible (repeat (first | assumption | apply hKi_g)))) ?_
      intro y2 p5 h7 h8
      have qz := h7
      have qp := h8
      refine hp_id (st := [.int y2]) ?_
      refine hp_ri rfl rfl ?_
      first | (exact k0 _ _ (by first | (rw [qz, eB]; first | (rw [gO_1, gA_1]; rfl) | (rw [gA_1]; rfl) | rfl) | (rw [qp, eB]; first | (rw [gO_1]; rfl) | rfl)) (by first | (rw [qz, eB]; first | (rw [gO_1, gA_1]; rfl) | (rw [gA_1]; rfl) | rfl) | (rw [qp, eB]; first | (rw [gO_1]; rfl) | rfl))) | (exfalso; omega)
  ·
    refine hp_s (pc' := 8) (st' := [.int 0]) rfl rfl rfl ?_
    refine hp_ri rfl rfl ?_
    first | (exact k0 _ _ (by first | (rw [qz, eB]; first | (rw [gO_1, gA_1]; rfl) | (rw [gA_1]; rfl) | rfl) | (rw [qp, eB]; first | (rw [gO_1]; rfl) | rfl)) (by first | (rw [qz, eB]; first | (rw [gO_1, gA_1]; rfl) | (rw [gA_1]; rfl) | rfl) | (rw [qp, eB]; first | (rw [gO_1]; rfl) | rfl))) | (exfalso; omega)
theorem s_run41 {ro : List (List Int32)} {n d : Nat} {p : xH} {Q : Option Value → xH → Prop} {x : Int32} {xi : Int} {v : Int32} {vi : Int} (hro : jro ro) (hx : x.toInt = xi) (hv : v.toInt = vi) (pre0 : 0 ≤ vi) (pre1 : vi ≤ 37) (pre2 : hKi p) (k0 : ∀ z : Int32, ∀ p2 : xH, (z = aW (gO p) 2 (gA p) (x + 1)) → (p2 = hBg p (nW (gO p) 2)) → Q (some (.int z)) p2) : hP ro n d (9, 7, 1, 1, k116) 0 (lv_args 0 [.ref 57, .int 41, .int x, .int v]) [] p Q := by
  subst hx
  subst hv
  refine hp_id (ls := [(0, .ref 57), (1, .int 41), (2, .int x), (3, .int v)]) ?_
  refine hp_s (pc' := 1) (st' := [.int 41]) rfl rfl rfl ?_
  refine hp_go (pc' := 192) rfl rfl rfl ?_
  refine hp_s (pc' := 193) (st' := [.ref 57]) rfl rfl rfl ?_
  refine hp_s (pc' := 194) (st' := [.int 2, .ref 57]) rfl rfl rfl ?_
  refine hp_s (pc' := 195) (st' := [.int 1, .int 2, .ref 57]) rfl rfl rfl ?_
  refine hp_s (pc' := 196) (st' := [.int x, .int 1, .int 2, .ref 57]) rfl rfl rfl ?_
  refine hp_s (pc' := 197) (st' := [.int 1, .int x, .int 1, .int 2, .ref 57]) rfl rfl rfl ?_
  refine hp_z (pc' := 198) (e := x + 1) (st' := [.int 1, .int 2, .ref 57]) rfl rfl rfl ?_
  intro z1 hz1
  have ez1 := i_add hz1 (show x.toInt = x.toInt from rfl) (show (1 : Int32).toInt = 1 from by decide)
  refine hp_s (pc' := 199) (st' := [.int v, .int z1, .int 1, .int 2, .ref 57]) rfl rfl rfl ?_
  refine hp_cv (r := 57) (o := 9) (kd := 1) (as := [.int 2, .int 1, .int z1, .int v]) (rest := []) (pc' := 202) rfl rfl rfl rfl rfl rfl rfl rfl rfl (fun d1 => ?_)
  refine s_from2_1 hro (xi := z1.toInt) rfl (vi := v.toInt) rfl (by first | with_reducible assumption | omega | (rw [eB]; exact hKi_1 pre2) | (subst_vars; with_reducible (repeat (first | assumption | apply hKi_g)))) (by first | with_reducible assumption | omega | (rw [eB]; exact hKi_1 pre2) | (subst_vars; with_reducible (repeat (first | assumption | apply hKi_g)))) (by first | with_reducible assumption | omega | (rw [eB]; exact hKi_1 pre2) | (subst_vars; with_reducible (repeat (first | assumption | apply hKi_g)))) ?_
  intro y1 p1 h1 h2
  refine hp_id (st := [.int y1]) ?_
  refine hp_ri rfl rfl ?_
  first | (exact k0 _ _ (by first | assumption | (subst_vars; first | rfl | (simp only [gO_g, gA_g, hBg_app]; done) | (simp only [gO_g, gA_g, hBg_app]; rfl))) (by first | assumption | (subst_vars; first | rfl | (simp only [gO_g, gA_g, hBg_app]; done) | (simp only [gO_g, gA_g, hBg_app]; rfl)))) | (exfalso; omega)
theorem s_from3_1 {ro : List (List Int32)} {n d : Nat} {p : xH} {Q : Option Value → xH → Prop} {x : Int32} {xi : Int} {v : Int32} {vi : Int} (hro : jro ro) (hx : x.toInt = xi) (hv : v.toInt = vi) (pre0 : 0 ≤ vi) (pre1 : vi ≤ 36) (pre2 : hKi p) (k0 : ∀ z : Int32, ∀ p2 : xH, (z = aW (gO p) 3 (gA p) x) → (p2 = hBg p (nW (gO p) 3)) → Q (some (.int z)) p2) : hP ro n d (9, 7, 1, 1, k115) 0 (lv_args 0 [.ref 57, .int 3, .int 1, .int x, .int v]) [] p Q := by
  subst hx
  subst hv
  refine hp_id (ls := [(0, .ref 57), (1, .int 3), (2, .int 1), (3, .int x), (4, .int v)]) ?_
  refine hp_s (pc' := 2) (st' := [.int v]) rfl rfl rfl ?_
  refine hp_s (pc' := 4) (st' := [.int 40, .int v]) rfl rfl rfl ?_
  refine hp_ic (pc' := 7) (t := 9) (a := v.toInt) (b := 40) rfl rfl rfl rfl (by decide) (fun (h1 : v.toInt ≤ 40) => ?_) (fun (h2 : ¬ (v.toInt ≤ 40)) => ?_)
  ·
    refine hp_s (pc' := 10) (st' := [.int 3]) rfl rfl rfl ?_
    refine hp_s (pc' := 12) (ls' := [(5, .int 3), (0, .ref 57), (1, .int 3), (2, .int 1), (3, .int x), (4, .int v)]) (st' := []) rfl rfl rfl ?_
    refine hp_s (pc' := 13) (st' := [.int 0]) rfl rfl rfl ?_
    refine hp_s (pc' := 15) (ls' := [(6, .int 0), (5, .int 3), (0, .ref 57), (1, .int 3), (2, .int 1), (3, .int x), (4, .int v)]) (st' := []) rfl rfl rfl ?_
    refine hp_s (pc' := 17) (st' := [.int 0]) rfl rfl rfl ?_
    refine hp_s (pc' := 19) (st' := [.int 8, .int 0]) rfl rfl rfl ?_
    refine hp_go (pc' := 22) rfl rfl rfl ?_
    refine hp_sta (k := 2) (pc' := 25) rfl rfl rfl ?_
    refine hp_s (pc' := 27) (st' := [.int 3, .retAddr 2]) rfl rfl rfl ?_
    refine hp_s (pc' := 28) (st' := [.int 4, .int 3, .retAddr 2]) rfl rfl rfl ?_
    refine hp_s (pc' := 29) (st' := [.int 12, .retAddr 2]) rfl rfl rfl ?_
    refine hp_s (pc' := 30) (st' := [.int 1, .int 12, .retAddr 2]) rfl rfl rfl ?_
    refine hp_s (pc' := 31) (st' := [.int 13, .retAddr 2]) rfl rfl rfl ?_
    refine hp_lds (v := 41) hro.2 rfl rfl (by decide +kernel) ?_
    intro g1a g1b
    refine hp_go (pc' := 49) rfl rfl rfl ?_
    refine hp_sta (k := 2) (pc' := 52) rfl rfl rfl ?_
    refine hp_s (pc' := 54) (st' := [.int 3, .retAddr 2]) rfl rfl rfl ?_
    refine hp_s (pc' := 55) (st' := [.int 4, .int 3, .retAddr 2]) rfl rfl rfl ?_
    refine hp_s (pc' := 56) (st' := [.int 12, .retAddr 2]) rfl rfl rfl ?_
    refine hp_s (pc' := 57) (st' := [.int 1, .int 12, .retAddr 2]) rfl rfl rfl ?_
    refine hp_s (pc' := 58) (st' := [.int 13, .retAddr 2]) rfl rfl rfl ?_
    refine hp_lds (v := 41) hro.2 rfl rfl (by decide +kernel) ?_
    intro g2a g2b
    refine hp_s (pc' := 61) (ls' := [(6, .int 41), (5, .int 3), (0, .ref 57), (1, .int 3), (2, .int 1), (3, .int x), (4, .int v)]) (st' := []) rfl rfl rfl ?_
    refine hp_s (pc' := 62) (st' := [.ref 57]) rfl rfl rfl ?_
    refine hp_get (k := 3) (pc' := 65) (v := (rI p 57 3)) rfl rfl rfl rfl rfl rfl ?_
    refine hp_s (pc' := 67) (st' := [.int 24, .int (rI p 57 3)]) rfl rfl rfl ?_
    refine hp_ic (pc' := 70) (t := 81) (a := (rI p 57 3).toInt) (b := 24) rfl rfl rfl rfl (by decide) (fun (h3 : 24 ≤ (rI p 57 3).toInt) => ?_) (fun (h4 : ¬ (24 ≤ (rI p 57 3).toInt)) => ?_)
    ·
      refine hp_s (pc' := 82) (st' := [.ref 57]) rfl rfl rfl ?_
      refine hp_s (pc' := 83) (st' := [.ref 57, .ref 57]) rfl rfl rfl ?_
      refine hp_get (k := 3) (pc' := 86) (v := (rI p 57 3)) rfl rfl rfl rfl rfl rfl ?_
      refine hp_s (pc' := 87) (st' := [.int 1, .int (rI p 57 3), .ref 57]) rfl rfl rfl ?_
      refine hp_z (pc' := 88) (e := (rI p 57 3) + 1) (st' := [.ref 57]) rfl rfl rfl ?_
      intro z5 hz5
      have ez5 := i_add hz5 (show (rI p 57 3).toInt = (rI p 57 3).toInt from rfl) (show (1 : Int32).toInt = 1 from by decide)
      refine hp_put (k := 3) (pc' := 91) rfl rfl rfl rfl rfl ?_
      intro p1 wp1 ep1
      have eB : p1 = hB1 p 41 := (by subst_vars; unfold hB1; first | rw [if_pos (by omega)] | rw [if_neg (by omega)])
      refine hp_s (pc' := 92) (st' := [.ref 57]) rfl rfl rfl ?_
      refine hp_s (pc' := 94) (st' := [.int 41, .ref 57]) rfl rfl rfl ?_
      refine hp_s (pc' := 95) (st' := [.int x, .int 41, .ref 57]) rfl rfl rfl ?_
      refine hp_s (pc' := 97) (st' := [.int v, .int x, .int 41, .ref 57]) rfl rfl rfl ?_
      refine hp_s (pc' := 98) (st' := [.int 1, .int v, .int x, .int 41, .ref 57]) rfl rfl rfl ?_
      refine hp_z (pc' := 99) (e := v + 1) (st' := [.int x, .int 41, .ref 57]) rfl rfl rfl ?_
      intro z6 hz6
      have ez6 := i_add hz6 (show v.toInt = v.toInt from rfl) (show (1 : Int32).toInt = 1 from by decide)
      refine hp_cv (r := 57) (o := 9) (kd := 1) (as := [.int 41, .int x, .int z6]) (rest := []) (pc' := 102) rfl rfl rfl rfl rfl rfl rfl rfl rfl (fun d1 => ?_)
      refine s_run41 hro (xi := x.toInt) rfl (vi := z6.toInt) rfl (by first | with_reducible assumption | omega | (rw [eB]; exact hKi_1 pre2) | (subst_vars; with_reducible (repeat (first | assumption | apply hKi_g)))) (by first | with_reducible assumption | omega | (rw [eB]; exact hKi_1 pre2) | (subst_vars; with_reducible (repeat (first | assumption | apply hKi_g)))) (by first | with_reducible assumption | omega | (rw [eB]; exact hKi_1 pre2) | (subst_vars; with_reducible (repeat (first | assumption | apply hKi_g)))) ?_
      intro y1 p2 h5 h6
      have qz := h5
      have qp := h6
      refine hp_id (st := [.int y1]) ?_
      refine hp_ri rfl rfl ?_
      first | (exact k0 _ _ (by first | (rw [qz, eB, gO_1, gA_1]; exact (aW_a (k := 3) (by omega)).1) | (rw [qp, eB, hBg_s, gO_1, (aW_a (k := 3) (o := gO p) (a := 0) (x := 0) (by omega)).2])) (by first | (rw [qz, eB, gO_1, gA_1]; exact (aW_a (k := 3) (by omega)).1) | (rw [qp, eB, hBg_s, gO_1, (aW_a (k := 3) (o := gO p) (a := 0) (x := 0) (by omega)).2]))) | (exfalso; omega)
    ·
      refine hp_s (pc' := 71) (st' := [.ref 57]) rfl rfl rfl ?_
      refine hp_getr (k := 2) (w := .ref 59) (pc' := 74) rfl rfl rfl rfl rfl ?_
      refine hp_s (pc' := 75) (st' := [.ref 57, .ref 59]) rfl rfl rfl ?_
      refine hp_get (k := 3) (pc' := 78) (v := (rI p 57 3)) rfl rfl rfl rfl rfl rfl ?_
      refine hp_s (pc' := 80) (st' := [.int 41, .int (rI p 57 3), .ref 59]) rfl rfl rfl ?_
      refine hp_st (t := 100) rfl (.inl rfl) rfl rfl ?_
      intro p3 wp3 (p3a : 0 ≤ (rI p 57 3).toInt) (p3b : (rI p 57 3).toInt < 24) ep3
      refine hp_s (pc' := 82) (st' := [.ref 57]) rfl rfl rfl ?_
      refine hp_s (pc' := 83) (st' := [.ref 57, .ref 57]) rfl rfl rfl ?_
      refine hp_get (k := 3) (pc' := 86) (v := (rI p 57 3)) rfl rfl rfl rfl rfl (by rw [ep3, rI_o (by decide)]) ?_
      refine hp_s (pc' := 87) (st' := [.int 1, .int (rI p 57 3), .ref 57]) rfl rfl rfl ?_
      refine hp_z (pc' := 88) (e := (rI p 57 3) + 1) (st' := [.ref 57]) rfl rfl rfl ?_
      intro z7 hz7
      have ez7 := i_add hz7 (show (rI p 57 3).toInt = (rI p 57 3).toInt from rfl) (show (1 : Int32).toInt = 1 from by decide)
      refine hp_put (k := 3) (pc' := 91) rfl rfl rfl rfl rfl ?_
      intro p4 wp4 ep4
      have eB : p4 = hB1 p 41 := (by subst_vars; unfold hB1; first | rw [if_pos (by omega)] | rw [if_neg (by omega)])
      refine hp_s (pc' := 92) (st' := [.ref 57]) rfl rfl rfl ?_
      refine hp_s (pc' := 94) (st' := [.int 41, .ref 57]) rfl rfl rfl ?_
      refine hp_s (pc' := 95) (st' := [.int x, .int 41, .ref 57]) rfl rfl rfl ?_
      refine hp_s (pc' := 97) (st' := [.int v, .int x, .int 41, .ref 57]) rfl rfl rfl ?_
      refine hp_s (pc' := 98) (st' := [.int 1, .int v, .int x, .int 41, .ref 57]) rfl rfl rfl ?_
      refine hp_z (pc' := 99) (e := v + 1) (st' := [.int x, .int 41, .ref 57]) rfl rfl rfl ?_
      intro z8 hz8
      have ez8 := i_add hz8 (show v.toInt = v.toInt from rfl) (show (1 : Int32).toInt = 1 from by decide)
      refine hp_cv (r := 57) (o := 9) (kd := 1) (as := [.int 41, .int x, .int z8]) (rest := []) (pc' := 102) rfl rfl rfl rfl rfl rfl rfl rfl rfl (fun d2 => ?_)
      refine s_run41 hro (xi := x.toInt) rfl (vi := z8.toInt) rfl (by first | with_reducible assumption | omega | (rw [eB]; exact hKi_1 pre2) | (subst_vars; with_reducible (repeat (first | assumption | apply hKi_g)))) (by first | with_reducible assumption | omega | (rw [eB]; exact hKi_1 pre2) | (subst_vars; with_reducible (repeat (first | assumption | apply hKi_g)))) (by first | with_reducible assumption | omega | (rw [eB]; exact hKi_1 pre2) | (subst_vars; with_reducible (repeat (first | assumption | apply hKi_g)))) ?_
      intro y2 p5 h7 h8
      have qz := h7
      have qp := h8
      refine hp_id (st := [.int y2]) ?_
      refine hp_ri rfl rfl ?_
      first | (exact k0 _ _ (by first | (rw [qz, eB, gO_1, gA_1]; exact (aW_a (k := 3) (by omega)).1) | (rw [qp, eB, hBg_s, gO_1, (aW_a (k := 3) (o := gO p) (a := 0) (x := 0) (by omega)).2])) (by first | (rw [qz, eB, gO_1, gA_1]; exact (aW_a (k := 3) (by omega)).1) | (rw [qp, eB, hBg_s, gO_1, (aW_a (k := 3) (o := gO p) (a := 0) (x := 0) (by omega)).2]))) | (exfalso; omega)
  ·
    refine hp_s (pc' := 8) (st' := [.int 0]) rfl rfl rfl ?_
    refine hp_ri rfl rfl ?_
    first | (exact k0 _ _ (by first | (rw [qz, eB, gO_1, gA_1]; exact (aW_a (k := 3) (by omega)).1) | (rw [qp, eB, hBg_s, gO_1, (aW_a (k := 3) (o := gO p) (a := 0) (x := 0) (by omega)).2])) (by first | (rw [qz, eB, gO_1, gA_1]; exact (aW_a (k := 3) (by omega)).1) | (rw [qp, eB, hBg_s, gO_1, (aW_a (k := 3) (o := gO p) (a := 0) (x := 0) (by omega)).2]))) | (exfalso; omega)
theorem s_from4_1 {ro : List (List Int32)} {n d : Nat} {p : xH} {Q : Option Value → xH → Prop} {x : Int32} {xi : Int} {v : Int32} {vi : Int} (hro : jro ro) (hx : x.toInt = xi) (hv : v.toInt = vi) (pre0 : 0 ≤ vi) (pre1 : vi ≤ 38) (pre2 : hKi p) (k0 : ∀ z : Int32, ∀ p2 : xH, (z = aW (gO p) 4 (gA p) x) → (p2 = hBg p (nW (gO p) 4)) → Q (some (.int z)) p2) : hP ro n d (9, 7, 1, 1, k115) 0 (lv_args 0 [.ref 57, .int 4, .int 1, .int x, .int v]) [] p Q := by
  subst hx
  subst hv
  refine hp_id (ls := [(0, .ref 57), (1, .int 4), (2, .int 1), (3, .int x), (4, .int v)]) ?_
  refine hp_s (pc' := 2) (st' := [.int v]) rfl rfl rfl ?_
  refine hp_s (pc' := 4) (st' := [.int 40, .int v]) rfl rfl rfl ?_
  refine hp_ic (pc' := 7) (t := 9) (a := v.toInt) (b := 40) rfl rfl rfl rfl (by decide) (fun (h1 : v.toInt ≤ 40) => ?_) (fun (h2 : ¬ (v.toInt ≤ 40)) => ?_)
  ·
    refine hp_s (pc' := 10) (st' := [.int 4]) rfl rfl rfl ?_
    refine hp_s (pc' := 12) (ls' := [(5, .int 4), (0, .ref 57), (1, .int 4), (2, .int 1), (3, .int x), (4, .int v)]) (st' := []) rfl rfl rfl ?_
    refine hp_s (pc' := 13) (st' := [.int 0]) rfl rfl rfl ?_
    refine hp_s (pc' := 15) (ls' := [(6, .int 0), (5, .int 4), (0, .ref 57), (1, .int 4), (2, .int 1), (3, .int x), (4, .int v)]) (st' := []) rfl rfl rfl ?_
    refine hp_s (pc' := 17) (st' := [.int 0]) rfl rfl rfl ?_
    refine hp_s (pc' := 19) (st' := [.int 8, .int 0]) rfl rfl rfl ?_
    refine hp_go (pc' := 22) rfl rfl rfl ?_
    refine hp_sta (k := 2) (pc' := 25) rfl rfl rfl ?_
    refine hp_s (pc' := 27) (st' := [.int 4, .retAddr 2]) rfl rfl rfl ?_
    refine hp_s (pc' := 28) (st' := [.int 4, .int 4, .retAddr 2]) rfl rfl rfl ?_
    refine hp_s (pc' := 29) (st' := [.int 16, .retAddr 2]) rfl rfl rfl ?_
    refine hp_s (pc' := 30) (st' := [.int 1, .int 16, .retAddr 2]) rfl rfl rfl ?_
    refine hp_s (pc' := 31) (st' := [.int 17, .retAddr 2]) rfl rfl rfl ?_
    refine hp_lds (v := 0) hro.2 rfl rfl (by decide +kernel) ?_
    intro g1a g1b
    refine hp_go (pc' := 35) rfl rfl rfl ?_
    refine hp_sta (k := 1) (pc' := 38) rfl rfl rfl ?_
    refine hp_s (pc' := 40) (st' := [.int 4, .retAddr 1]) rfl rfl rfl ?_
    refine hp_lds (v := 1) hro.1 rfl rfl (by decide +kernel) ?_
    intro g2a g2b
    refine hp_s (pc' := 43) (ls' := [(5, .int 1), (6, .int 0), (0, .ref 57), (1, .int 4), (2, .int 1), (3, .int x), (4, .int v)]) (st' := []) rfl rfl rfl ?_
    refine hp_s (pc' := 46) (ls' := [(6, .int 1), (5, .int 1), (0, .ref 57), (1, .int 4), (2, .int 1), (3, .int x), (4, .int v)]) (st' := []) rfl rfl rfl ?_
    refine hp_go (pc' := 15) rfl rfl rfl ?_
    refine hp_s (pc' := 17) (st' := [.int 1]) rfl rfl rfl ?_
    refine hp_s (pc' := 19) (st' := [.int 8, .int 1]) rfl rfl rfl ?_
    refine hp_go (pc' := 22) rfl rfl rfl ?_
    refine hp_sta (k := 2) (pc' := 25) rfl rfl rfl ?_
    refine hp_s (pc' := 27) (st' := [.int 1, .retAddr 2]) rfl rfl rfl ?_
    refine hp_s (pc' := 28) (st' := [.int 4, .int 1, .retAddr 2]) rfl rfl rfl ?_
    refine hp_s (pc' := 29) (st' := [.int 4, .retAddr 2]) rfl rfl rfl ?_
    refine hp_s (pc' := 30) (st' := [.int 1, .int 4, .retAddr 2]) rfl rfl rfl ?_
    refine hp_s (pc' := 31) (st' := [.int 5, .retAddr 2]) rfl rfl rfl ?_
    refine hp_lds (v := 0) hro.2 rfl rfl (by decide +kernel) ?_
    intro g3a g3b
    refine hp_go (pc' := 35) rfl rfl rfl ?_
    refine hp_sta (k := 1) (pc' := 38) rfl rfl rfl ?_
    refine hp_s (pc' := 40) (st' := [.int 1, .retAddr 1]) rfl rfl rfl ?_
    refine hp_lds (v := 0) hro.1 rfl rfl (by decide +kernel) ?_
    intro g4a g4b
    refine hp_s (pc' := 43) (ls' := [(5, .int 0), (6, .int 1), (0, .ref 57), (1, .int 4), (2, .int 1), (3, .int x), (4, .int v)]) (st' := []) rfl rfl rfl ?_
    refine hp_s (pc' := 46) (ls' := [(6, .int 2), (5, .int 0), (0, .ref 57), (1, .int 4), (2, .int 1), (3, .int x), (4, .int v)]) (st' := []) rfl rfl rfl ?_
    refine hp_go (pc' := 15) rfl rfl rfl ?_
    refine hp_s (pc' := 17) (st' := [.int 2]) rfl rfl rfl ?_
    refine hp_s (pc' := 19) (st' := [.int 8, .int 2]) rfl rfl rfl ?_
    refine hp_go (pc' := 22) rfl rfl rfl ?_
    refine hp_sta (k := 2) (pc' := 25) rfl rfl rfl ?_
    refine hp_s (pc' := 27) (st' := [.int 0, .retAddr 2]) rfl rfl rfl ?_
    refine hp_s (pc' := 28) (st' := [.int 4, .int 0, .retAddr 2]) rfl rfl rfl ?_
    refine hp_s (pc' := 29) (st' := [.int 0, .retAddr 2]) rfl rfl rfl ?_
    refine hp_s (pc' := 30) (st' := [.int 1, .int 0, .retAddr 2]) rfl rfl rfl ?_
    refine hp_s (pc' := 31) (st' := [.int 1, .retAddr 2]) rfl rfl rfl ?_
    refine hp_lds (v := 10) hro.2 rfl rfl (by decide +kernel) ?_
    intro g5a g5b
    refine hp_go (pc' := 49) rfl rfl rfl ?_
    refine hp_sta (k := 2) (pc' := 52) rfl rfl rfl ?_
    refine hp_s (pc' := 54) (st' := [.int 0, .retAddr 2]) rfl rfl rfl ?_
    refine hp_s (pc' := 55) (st' := [.int 4, .int 0, .retAddr 2]) rfl rfl rfl ?_
    refine hp_s (pc' := 56) (st' := [.int 0, .retAddr 2]) rfl rfl rfl ?_
    refine hp_s (pc' := 57) (st' := [.int 1, .int 0, .retAddr 2]) rfl rfl rfl ?_
    refine hp_s (pc' := 58) (st' := [.int 1, .retAddr 2]) rfl rfl rfl ?_
    refine hp_lds (v := 10) hro.2 rfl rfl (by decide +kernel) ?_
    intro g6a g6b
    refine hp_s (pc' := 61) (ls' := [(6, .int 10), (5, .int 0), (0, .ref 57), (1, .int 4), (2, .int 1), (3, .int x), (4, .int v)]) (st' := []) rfl rfl rfl ?_
    refine hp_s (pc' := 62) (st' := [.ref 57]) rfl rfl rfl ?_
    refine hp_get (k := 3) (pc' := 65) (v := (rI p 57 3)) rfl rfl rfl rfl rfl rfl ?_
    refine hp_s (pc' := 67) (st' := [.int 24, .int (rI p 57 3)]) rfl rfl rfl ?_
    refine hp_ic (pc' := 70) (t := 81) (a := (rI p 57 3).toInt) (b := 24) rfl rfl rfl rfl (by decide) (fun (h3 : 24 ≤ (rI p 57 3).toInt) => ?_) (fun (h4 : ¬ (24 ≤ (rI p 57 3).toInt)) => ?_)
    ·
      refine hp_s (pc' := 82) (st' := [.ref 57]) rfl rfl rfl ?_
      refine hp_s (pc' := 83) (st' := [.ref 57, .ref 57]) rfl rfl rfl ?_
      refine hp_get (k := 3) (pc' := 86) (v := (rI p 57 3)) rfl rfl rfl rfl rfl rfl ?_
      refine hp_s (pc' := 87) (st' := [.int 1, .int (rI p 57 3), .ref 57]) rfl rfl rfl ?_
      refine hp_z (pc' := 88) (e := (rI p 57 3) + 1) (st' := [.ref 57]) rfl rfl rfl ?_
      intro z11 hz11
      have ez11 := i_add hz11 (show (rI p 57 3).toInt = (rI p 57 3).toInt from rfl) (show (1 : Int32).toInt = 1 from by decide)
      refine hp_put (k := 3) (pc' := 91) rfl rfl rfl rfl rfl ?_
      intro p1 wp1 ep1
      have eB : p1 = hB1 p 10 := (by subst_vars; unfold hB1; first | rw [if_pos (by omega)] | rw [if_neg (by omega)])
      refine hp_s (pc' := 92) (st' := [.ref 57]) rfl rfl rfl ?_
      refine hp_s (pc' := 94) (st' := [.int 10, .ref 57]) rfl rfl rfl ?_
      refine hp_s (pc' := 95) (st' := [.int x, .int 10, .ref 57]) rfl rfl rfl ?_
      refine hp_s (pc' := 97) (st' := [.int v, .int x, .int 10, .ref 57]) rfl rfl rfl ?_
      refine hp_s (pc' := 98) (st' := [.int 1, .int v, .int x, .int 10, .ref 57]) rfl rfl rfl ?_
      refine hp_z (pc' := 99) (e := v + 1) (st' := [.int x, .int 10, .ref 57]) rfl rfl rfl ?_
      intro z12 hz12
      have ez12 := i_add hz12 (show v.toInt = v.toInt from rfl) (show (1 : Int32).toInt = 1 from by decide)
      refine hp_cv (r := 57) (o := 9) (kd := 1) (as := [.int 10, .int x, .int z12]) (rest := []) (pc' := 102) rfl rfl rfl rfl rfl rfl rfl rfl rfl (fun d1 => ?_)
      refine s_run10 hro (xi := x.toInt) rfl (vi := z12.toInt) rfl (by first | with_reducible assumption | omega | (rw [eB]; exact hKi_1 pre2) | (subst_vars; with_reducible (repeat (first | assumption | apply hKi_g)))) (by first | with_reducible assumption | omega | (rw [eB]; exact hKi_1 pre2) | (subst_vars; with_reducible (repeat (first | assumption | apply hKi_g)))) (by first | with_reducible assumption | omega | (rw [eB]; exact hKi_1 pre2) | (subst_vars; with_reducible (repeat (first | assumption | apply hKi_g)))) ?_
      intro y1 p2 h5 h6
      have qz := h5
      have qp := h6
      refine hp_id (st := [.int y1]) ?_
      refine hp_ri rfl rfl ?_
      first | (exact k0 _ _ (by first | (rw [qz, eB]; first | (rw [gO_1, gA_1]; rfl) | (rw [gA_1]; rfl) | rfl) | (rw [qp, eB]; first | (rw [gO_1]; rfl) | rfl)) (by first | (rw [qz, eB]; first | (rw [gO_1, gA_1]; rfl) | (rw [gA_1]; rfl) | rfl) | (rw [qp, eB]; first | (rw [gO_1]; rfl) | rfl))) | (exfalso; omega)
    ·
      refine hp_s (pc' := 71) (st' := [.ref 57]) rfl rfl rfl ?_
      refine hp_getr (k := 2) (w := .ref 59) (pc' := 74) rfl rfl rfl rfl rfl ?_
      refine hp_s (pc' := 75) (st' := [.ref 57, .ref 59]) rfl rfl rfl ?_
      refine hp_get (k := 3) (pc' := 78) (v := (rI p 57 3)) rfl rfl rfl rfl rfl rfl ?_
      refine hp_s (pc' := 80) (st' := [.int 10, .int (rI p 57 3), .ref 59]) rfl rfl rfl ?_
      refine hp_st (t := 100) rfl (.inl rfl) rfl rfl ?_
      intro p3 wp3 (p3a : 0 ≤ (rI p 57 3).toInt) (p3b : (rI p 57 3).toInt < 24) ep3
      refine hp_s (pc' := 82) (st' := [.ref 57]) rfl rfl rfl ?_
      refine hp_s (pc' := 83) (st' := [.ref 57, .ref 57]) rfl rfl rfl ?_
      refine hp_get (k := 3) (pc' := 86) (v := (rI p 57 3)) rfl rfl rfl rfl rfl (by rw [ep3, rI_o (by decide)]) ?_
      refine hp_s (pc' := 87) (st' := [.int 1, .int (rI p 57 3), .ref 57]) rfl rfl rfl ?_
      refine hp_z (pc' := 88) (e := (rI p 57 3) + 1) (st' := [.ref 57]) rfl rfl rfl ?_
      intro z13 hz13
      have ez13 := i_add hz13 (show (rI p 57 3).toInt = (rI p 57 3).toInt from rfl) (show (1 : Int32).toInt = 1 from by decide)
      refine hp_put (k := 3) (pc' := 91) rfl rfl rfl rfl rfl ?_
      intro p4 wp4 ep4
      have eB : p4 = hB1 p 10 := (by subst_vars; unfold hB1; first | rw [if_pos (by omega)] | rw [if_neg (by omega)])
      refine hp_s (pc' := 92) (st' := [.ref 57]) rfl rfl rfl ?_
      refine hp_s (pc' := 94) (st' := [.int 10, .ref 57]) rfl rfl rfl ?_
      refine hp_s (pc' := 95) (st' := [.int x, .int 10, .ref 57]) rfl rfl rfl ?_
      refine hp_s (pc' := 97) (st' := [.int v, .int x, .int 10, .ref 57]) rfl rfl rfl ?_
      refine hp_s (pc' := 98) (st' := [.int 1, .int v, .int x, .int 10, .ref 57]) rfl rfl rfl ?_
      refine hp_z (pc' := 99) (e := v + 1) (st' := [.int x, .int 10, .ref 57]) rfl rfl rfl ?_
      intro z14 hz14
      have ez14 := i_add hz14 (show v.toInt = v.toInt from rfl) (show (1 : Int32).toInt = 1 from by decide)
      refine hp_cv (r := 57) (o := 9) (kd := 1) (as := [.int 10, .int x, .int z14]) (rest := []) (pc' := 102) rfl rfl rfl rfl rfl rfl rfl rfl rfl (fun d2 => ?_)
      refine s_run10 hro (xi := x.toInt) rfl (vi := z14.toInt) rfl (by first | with_reducible assumption | omega | (rw [eB]; exact hKi_1 pre2) | (subst_vars; with_reducible (repeat (first | assumption | apply hKi_g)))) (by first | with_reducible assumption | omega | (rw [eB]; exact hKi_1 pre2) | (subst_vars; with_reducible (repeat (first | assumption | apply hKi_g)))) (by first | with_reducible assumption | omega | (rw [eB]; exact hKi_1 pre2) | (subst_vars; with_reducible (repeat (first | assumption | apply hKi_g)))) ?_
      intro y2 p5 h7 h8
      have qz := h7
      have qp := h8
      refine hp_id (st := [.int y2]) ?_
      refine hp_ri rfl rfl ?_
      first | (exact k0 _ _ (by first | (rw [qz, eB]; first | (rw [gO_1, gA_1]; rfl) | (rw [gA_1]; rfl) | rfl) | (rw [qp, eB]; first | (rw [gO_1]; rfl) | rfl)) (by first | (rw [qz, eB]; first | (rw [gO_1, gA_1]; rfl) | (rw [gA_1]; rfl) | rfl) | (rw [qp, eB]; first | (rw [gO_1]; rfl) | rfl))) | (exfalso; omega)
  ·
    refine hp_s (pc' := 8) (st' := [.int 0]) rfl rfl rfl ?_
    refine hp_ri rfl rfl ?_
    first | (exact k0 _ _ (by first | (rw [qz, eB]; first | (rw [gO_1, gA_1]; rfl) | (rw [gA_1]; rfl) | rfl) | (rw [qp, eB]; first | (rw [gO_1]; rfl) | rfl)) (by first | (rw [qz, eB]; first | (rw [gO_1, gA_1]; rfl) | (rw [gA_1]; rfl) | rfl) | (rw [qp, eB]; first | (rw [gO_1]; rfl) | rfl))) | (exfalso; omega)
theorem s_from5_1 {ro : List (List Int32)} {n d : Nat} {p : xH} {Q : Option Value → xH → Prop} {x : Int32} {xi : Int} {v : Int32} {vi : Int} (hro : jro ro) (hx : x.toInt = xi) (hv : v.toInt = vi) (pre0 : 0 ≤ vi) (pre1 : vi ≤ 36) (pre2 : hKi p) (k0 : ∀ z : Int32, ∀ p2 : xH, (z = aW (gO p) 5 (gA p) x) → (p2 = hBg p (nW (gO p) 5)) → Q (some (.int z)) p2) : hP ro n d (9, 7, 1, 1, k115) 0 (lv_args 0 [.ref 57, .int 5, .int 1, .int x, .int v]) [] p Q := by
  subst hx
  subst hv
  refine hp_id (ls := [(0, .ref 57), (1, .int 5), (2, .int 1), (3, .int x), (4, .int v)]) ?_
  refine hp_s (pc' := 2) (st' := [.int v]) rfl rfl rfl ?_
  refine hp_s (pc' := 4) (st' := [.int 40, .int v]) rfl rfl rfl ?_
  refine hp_ic (pc' := 7) (t := 9) (a := v.toInt) (b := 40) rfl rfl rfl rfl (by decide) (fun (h1 : v.toInt ≤ 40) => ?_) (fun (h2 : ¬ (v.toInt ≤ 40)) => ?_)
  ·
    refine hp_s (pc' := 10) (st' := [.int 5]) rfl rfl rfl ?_
    refine hp_s (pc' := 12) (ls' := [(5, .int 5), (0, .ref 57), (1, .int 5), (2, .int 1), (3, .int x), (4, .int v)]) (st' := []) rfl rfl rfl ?_
    refine hp_s (pc' := 13) (st' := [.int 0]) rfl rfl rfl ?_
    refine hp_s (pc' := 15) (ls' := [(6, .int 0), (5, .int 5), (0, .ref 57), (1, .int 5), (2, .int 1), (3, .int x), (4, .int v)]) (st' := []) rfl rfl rfl ?_
    refine hp_s (pc' := 17) (st' := [.int 0]) rfl rfl rfl ?_
    refine hp_s (pc' := 19) (st' := [.int 8, .int 0]) rfl rfl rfl ?_
    refine hp_go (pc' := 22) rfl rfl rfl ?_
    refine hp_sta (k := 2) (pc' := 25) rfl rfl rfl ?_
    refine hp_s (pc' := 27) (st' := [.int 5, .retAddr 2]) rfl rfl rfl ?_
    refine hp_s (pc' := 28) (st' := [.int 4, .int 5, .retAddr 2]) rfl rfl rfl ?_
    refine hp_s (pc' := 29) (st' := [.int 20, .retAddr 2]) rfl rfl rfl ?_
    refine hp_s (pc' := 30) (st' := [.int 1, .int 20, .retAddr 2]) rfl rfl rfl ?_
    refine hp_s (pc' := 31) (st' := [.int 21, .retAddr 2]) rfl rfl rfl ?_
    refine hp_lds (v := 0) hro.2 rfl rfl (by decide +kernel) ?_
    intro g1a g1b
    refine hp_go (pc' := 35) rfl rfl rfl ?_
    refine hp_sta (k := 1) (pc' := 38) rfl rfl rfl ?_
    refine hp_s (pc' := 40) (st' := [.int 5, .retAddr 1]) rfl rfl rfl ?_
    refine hp_lds (v := 3) hro.1 rfl rfl (by decide +kernel) ?_
    intro g2a g2b
    refine hp_s (pc' := 43) (ls' := [(5, .int 3), (6, .int 0), (0, .ref 57), (1, .int 5), (2, .int 1), (3, .int x), (4, .int v)]) (st' := []) rfl rfl rfl ?_
    refine hp_s (pc' := 46) (ls' := [(6, .int 1), (5, .int 3), (0, .ref 57), (1, .int 5), (2, .int 1), (3, .int x), (4, .int v)]) (st' := []) rfl rfl rfl ?_
    refine hp_go (pc' := 15) rfl rfl rfl ?_
    refine hp_s (pc' := 17) (st' := [.int 1]) rfl rfl rfl ?_
    refine hp_s (pc' := 19) (st' := [.int 8, .int 1]) rfl rfl rfl ?_
    refine hp_go (pc' := 22) rfl rfl rfl ?_
    refine hp_sta (k := 2) (pc' := 25) rfl rfl rfl ?_
    refine hp_s (pc' := 27) (st' := [.int 3, .retAddr 2]) rfl rfl rfl ?_
    refine hp_s (pc' := 28) (st' := [.int 4, .int 3, .retAddr 2]) rfl rfl rfl ?_
    refine hp_s (pc' := 29) (st' := [.int 12, .retAddr 2]) rfl rfl rfl ?_
    refine hp_s (pc' := 30) (st' := [.int 1, .int 12, .retAddr 2]) rfl rfl rfl ?_
    refine hp_s (pc' := 31) (st' := [.int 13, .retAddr 2]) rfl rfl rfl ?_
    refine hp_lds (v := 41) hro.2 rfl rfl (by decide +kernel) ?_
    intro g3a g3b
    refine hp_go (pc' := 49) rfl rfl rfl ?_
    refine hp_sta (k := 2) (pc' := 52) rfl rfl rfl ?_
    refine hp_s (pc' := 54) (st' := [.int 3, .retAddr 2]) rfl rfl rfl ?_
    refine hp_s (pc' := 55) (st' := [.int 4, .int 3, .retAddr 2]) rfl rfl rfl ?_
    refine hp_s (pc' := 56) (st' := [.int 12, .retAddr 2]) rfl rfl rfl ?_
    refine hp_s (pc' := 57) (st' := [.int 1, .int 12, .retAddr 2]) rfl rfl rfl ?_
    refine hp_s (pc' := 58) (st' := [.int 13, .retAddr 2]) rfl rfl rfl ?_
    refine hp_lds (v := 41) hro.2 rfl rfl (by decide +kernel) ?_
    intro g4a g4b
    refine hp_s (pc' := 61) (ls' := [(6, .int 41), (5, .int 3), (0, .ref 57), (1, .int 5), (2, .int 1), (3, .int x), (4, .int v)]) (st' := []) rfl rfl rfl ?_
    refine hp_s (pc' := 62) (st' := [.ref 57]) rfl rfl rfl ?_
    refine hp_get (k := 3) (pc' := 65) (v := (rI p 57 3)) rfl rfl rfl rfl rfl rfl ?_
    refine hp_s (pc' := 67) (st' := [.int 24, .int (rI p 57 3)]) rfl rfl rfl ?_
    refine hp_ic (pc' := 70) (t := 81) (a := (rI p 57 3).toInt) (b := 24) rfl rfl rfl rfl (by decide) (fun (h3 : 24 ≤ (rI p 57 3).toInt) => ?_) (fun (h4 : ¬ (24 ≤ (rI p 57 3).toInt)) => ?_)
    ·
      refine hp_s (pc' := 82) (st' := [.ref 57]) rfl rfl rfl ?_
      refine hp_s (pc' := 83) (st' := [.ref 57, .ref 57]) rfl rfl rfl ?_
      refine hp_get (k := 3) (pc' := 86) (v := (rI p 57 3)) rfl rfl rfl rfl rfl rfl ?_
      refine hp_s (pc' := 87) (st' := [.int 1, .int (rI p 57 3), .ref 57]) rfl rfl rfl ?_
      refine hp_z (pc' := 88) (e := (rI p 57 3) + 1) (st' := [.ref 57]) rfl rfl rfl ?_
      intro z8 hz8
      have ez8 := i_add hz8 (show (rI p 57 3).toInt = (rI p 57 3).toInt from rfl) (show (1 : Int32).toInt = 1 from by decide)
      refine hp_put (k := 3) (pc' := 91) rfl rfl rfl rfl rfl ?_
      intro p1 wp1 ep1
      have eB : p1 = hB1 p 41 := (by subst_vars; unfold hB1; first | rw [if_pos (by omega)] | rw [if_neg (by omega)])
      refine hp_s (pc' := 92) (st' := [.ref 57]) rfl rfl rfl ?_
      refine hp_s (pc' := 94) (st' := [.int 41, .ref 57]) rfl rfl rfl ?_
      refine hp_s (pc' := 95) (st' := [.int x, .int 41, .ref 57]) rfl rfl rfl ?_
      refine hp_s (pc' := 97) (st' := [.int v, .int x, .int 41, .ref 57]) rfl rfl rfl ?_
      refine hp_s (pc' := 98) (st' := [.int 1, .int v, .int x, .int 41, .ref 57]) rfl rfl rfl ?_
      refine hp_z (pc' := 99) (e := v + 1) (st' := [.int x, .int 41, .ref 57]) rfl rfl rfl ?_
      intro z9 hz9
      have ez9 := i_add hz9 (show v.toInt = v.toInt from rfl) (show (1 : Int32).toInt = 1 from by decide)
      refine hp_cv (r := 57) (o := 9) (kd := 1) (as := [.int 41, .int x, .int z9]) (rest := []) (pc' := 102) rfl rfl rfl rfl rfl rfl rfl rfl rfl (fun d1 => ?_)
      refine s_run41 hro (xi := x.toInt) rfl (vi := z9.toInt) rfl (by first | with_reducible assumption | omega | (rw [eB]; exact hKi_1 pre2) | (subst_vars; with_reducible (repeat (first | assumption | apply hKi_g)))) (by first | with_reducible assumption | omega | (rw [eB]; exact hKi_1 pre2) | (subst_vars; with_reducible (repeat (first | assumption | apply hKi_g)))) (by first | with_reducible assumption | omega | (rw [eB]; exact hKi_1 pre2) | (subst_vars; with_reducible (repeat (first | assumption | apply hKi_g)))) ?_
      intro y1 p2 h5 h6
      have qz := h5
      have qp := h6
      refine hp_id (st := [.int y1]) ?_
      refine hp_ri rfl rfl ?_
      first | (exact k0 _ _ (by first | (rw [qz, eB, gO_1, gA_1]; exact (aW_a (k := 5) (by omega)).1) | (rw [qp, eB, hBg_s, gO_1, (aW_a (k := 5) (o := gO p) (a := 0) (x := 0) (by omega)).2])) (by first | (rw [qz, eB, gO_1, gA_1]; exact (aW_a (k := 5) (by omega)).1) | (rw [qp, eB, hBg_s, gO_1, (aW_a (k := 5) (o := gO p) (a := 0) (x := 0) (by omega)).2]))) | (exfalso; omega)
    ·
      refine hp_s (pc' := 71) (st' := [.ref 57]) rfl rfl rfl ?_
      refine hp_getr (k := 2) (w := .ref 59) (pc' := 74) rfl rfl rfl rfl rfl ?_
      refine hp_s (pc' := 75) (st' := [.ref 57, .ref 59]) rfl rfl rfl ?_
      refine hp_get (k := 3) (pc' := 78) (v := (rI p 57 3)) rfl rfl rfl rfl rfl rfl ?_
      refine hp_s (pc' := 80) (st' := [.int 41, .int (rI p 57 3), .ref 59]) rfl rfl rfl ?_
      refine hp_st (t := 100) rfl (.inl rfl) rfl rfl ?_
      intro p3 wp3 (p3a : 0 ≤ (rI p 57 3).toInt) (p3b : (rI p 57 3).toInt < 24) ep3
      refine hp_s (pc' := 82) (st' := [.ref 57]) rfl rfl rfl ?_
      refine hp_s (pc' := 83) (st' := [.ref 57, .ref 57]) rfl rfl rfl ?_
      refine hp_get (k := 3) (pc' := 86) (v := (rI p 57 3)) rfl rfl rfl rfl rfl (by rw [ep3, rI_o (by decide)]) ?_
      refine hp_s (pc' := 87) (st' := [.int 1, .int (rI p 57 3), .ref 57]) rfl rfl rfl ?_
      refine hp_z (pc' := 88) (e := (rI p 57 3) + 1) (st' := [.ref 57]) rfl rfl rfl ?_
      intro z10 hz10
      have ez10 := i_add hz10 (show (rI p 57 3).toInt = (rI p 57 3).toInt from rfl) (show (1 : Int32).toInt = 1 from by decide)
      refine hp_put (k := 3) (pc' := 91) rfl rfl rfl rfl rfl ?_
      intro p4 wp4 ep4
      have eB : p4 = hB1 p 41 := (by subst_vars; unfold hB1; first | rw [if_pos (by omega)] | rw [if_neg (by omega)])
      refine hp_s (pc' := 92) (st' := [.ref 57]) rfl rfl rfl ?_
      refine hp_s (pc' := 94) (st' := [.int 41, .ref 57]) rfl rfl rfl ?_
      refine hp_s (pc' := 95) (st' := [.int x, .int 41, .ref 57]) rfl rfl rfl ?_
      refine hp_s (pc' := 97) (st' := [.int v, .int x, .int 41, .ref 57]) rfl rfl rfl ?_
      refine hp_s (pc' := 98) (st' := [.int 1, .int v, .int x, .int 41, .ref 57]) rfl rfl rfl ?_
      refine hp_z (pc' := 99) (e := v + 1) (st' := [.int x, .int 41, .ref 57]) rfl rfl rfl ?_
      intro z11 hz11
      have ez11 := i_add hz11 (show v.toInt = v.toInt from rfl) (show (1 : Int32).toInt = 1 from by decide)
      refine hp_cv (r := 57) (o := 9) (kd := 1) (as := [.int 41, .int x, .int z11]) (rest := []) (pc' := 102) rfl rfl rfl rfl rfl rfl rfl rfl rfl (fun d2 => ?_)
      refine s_run41 hro (xi := x.toInt) rfl (vi := z11.toInt) rfl (by first | with_reducible assumption | omega | (rw [eB]; exact hKi_1 pre2) | (subst_vars; with_reducible (repeat (first | assumption | apply hKi_g)))) (by first | with_reducible assumption | omega | (rw [eB]; exact hKi_1 pre2) | (subst_vars; with_reducible (repeat (first | assumption | apply hKi_g)))) (by first | with_reducible assumption | omega | (rw [eB]; exact hKi_1 pre2) | (subst_vars; with_reducible (repeat (first | assumption | apply hKi_g)))) ?_
      intro y2 p5 h7 h8
      have qz := h7
      have qp := h8
      refine hp_id (st := [.int y2]) ?_
      refine hp_ri rfl rfl ?_
      first | (exact k0 _ _ (by first | (rw [qz, eB, gO_1, gA_1]; exact (aW_a (k := 5) (by omega)).1) | (rw [qp, eB, hBg_s, gO_1, (aW_a (k := 5) (o := gO p) (a := 0) (x := 0) (by omega)).2])) (by first | (rw [qz, eB, gO_1, gA_1]; exact (aW_a (k := 5) (by omega)).1) | (rw [qp, eB, hBg_s, gO_1, (aW_a (k := 5) (o := gO p) (a := 0) (x := 0) (by omega)).2]))) | (exfalso; omega)
  ·
    refine hp_s (pc' := 8) (st' := [.int 0]) rfl rfl rfl ?_
    refine hp_ri rfl rfl ?_
    first | (exact k0 _ _ (by first | (rw [qz, eB, gO_1, gA_1]; exact (aW_a (k := 5) (by omega)).1) | (rw [qp, eB, hBg_s, gO_1, (aW_a (k := 5) (o := gO p) (a := 0) (x := 0) (by omega)).2])) (by first | (rw [qz, eB, gO_1, gA_1]; exact (aW_a (k := 5) (by omega)).1) | (rw [qp, eB, hBg_s, gO_1, (aW_a (k := 5) (o := gO p) (a := 0) (x := 0) (by omega)).2]))) | (exfalso; omega)
theorem s_from6_1 {ro : List (List Int32)} {n d : Nat} {p : xH} {Q : Option Value → xH → Prop} {x : Int32} {xi : Int} {v : Int32} {vi : Int} (hro : jro ro) (hx : x.toInt = xi) (hv : v.toInt = vi) (pre0 : 0 ≤ vi) (pre1 : vi ≤ 38) (pre2 : hKi p) (k0 : ∀ z : Int32, ∀ p2 : xH, (z = aW (gO p) 6 (gA p) x) → (p2 = hBg p (nW (gO p) 6)) → Q (some (.int z)) p2) : hP ro n d (9, 7, 1, 1, k115) 0 (lv_args 0 [.ref 57, .int 6, .int 1, .int x, .int v]) [] p Q := by
  subst hx
  subst hv
  refine hp_id (ls := [(0, .ref 57), (1, .int 6), (2, .int 1), (3, .int x), (4, .int v)]) ?_
  refine hp_s (pc' := 2) (st' := [.int v]) rfl rfl rfl ?_
  refine hp_s (pc' := 4) (st' := [.int 40, .int v]) rfl rfl rfl ?_
  refine hp_ic (pc' := 7) (t := 9) (a := v.toInt) (b := 40) rfl rfl rfl rfl (by decide) (fun (h1 : v.toInt ≤ 40) => ?_) (fun (h2 : ¬ (v.toInt ≤ 40)) => ?_)
  ·
    refine hp_s (pc' := 10) (st' := [.int 6]) rfl rfl rfl ?_
    refine hp_s (pc' := 12) (ls' := [(5, .int 6), (0, .ref 57), (1, .int 6), (2, .int 1), (3, .int x), (4, .int v)]) (st' := []) rfl rfl rfl ?_
    refine hp_s (pc' := 13) (st' := [.int 0]) rfl rfl rfl ?_
    refine hp_s (pc' := 15) (ls' := [(6, .int 0), (5, .int 6), (0, .ref 57), (1, .int 6), (2, .int 1), (3, .int x), (4, .int v)]) (st' := []) rfl rfl rfl ?_
    refine hp_s (pc' := 17) (st' := [.int 0]) rfl rfl rfl ?_
    refine hp_s (pc' := 19) (st' := [.int 8, .int 0]) rfl rfl rfl ?_
    refine hp_go (pc' := 22) rfl rfl rfl ?_
    refine hp_sta (k := 2) (pc' := 25) rfl rfl rfl ?_
    refine hp_s (pc' := 27) (st' := [.int 6, .retAddr 2]) rfl rfl rfl ?_
    refine hp_s (pc' := 28) (st' := [.int 4, .int 6, .retAddr 2]) rfl rfl rfl ?_
    refine hp_s (pc' := 29) (st' := [.int 24, .retAddr 2]) rfl rfl rfl ?_
    refine hp_s (pc' := 30) (st' := [.int 1, .int 24, .retAddr 2]) rfl rfl rfl ?_
    refine hp_s (pc' := 31) (st' := [.int 25, .retAddr 2]) rfl rfl rfl ?_
    refine hp_lds (v := 0) hro.2 rfl rfl (by decide +kernel) ?_
    intro g1a g1b
    refine hp_go (pc' := 35) rfl rfl rfl ?_
    refine hp_sta (k := 1) (pc' := 38) rfl rfl rfl ?_
    refine hp_s (pc' := 40) (st' := [.int 6, .retAddr 1]) rfl rfl rfl ?_
    refine hp_lds (v := 0) hro.1 rfl rfl (by decide +kernel) ?_
    intro g2a g2b
    refine hp_s (pc' := 43) (ls' := [(5, .int 0), (6, .int 0), (0, .ref 57), (1, .int 6), (2, .int 1), (3, .int x), (4, .int v)]) (st' := []) rfl rfl rfl ?_
    refine hp_s (pc' := 46) (ls' := [(6, .int 1), (5, .int 0), (0, .ref 57), (1, .int 6), (2, .int 1), (3, .int x), (4, .int v)]) (st' := []) rfl rfl rfl ?_
    refine hp_go (pc' := 15) rfl rfl rfl ?_
    refine hp_s (pc' := 17) (st' := [.int 1]) rfl rfl rfl ?_
    refine hp_s (pc' := 19) (st' := [.int 8, .int 1]) rfl rfl rfl ?_
    refine hp_go (pc' := 22) rfl rfl rfl ?_
    refine hp_sta (k := 2) (pc' := 25) rfl rfl rfl ?_
    refine hp_s (pc' := 27) (st' := [.int 0, .retAddr 2]) rfl rfl rfl ?_
    refine hp_s (pc' := 28) (st' := [.int 4, .int 0, .retAddr 2]) rfl rfl rfl ?_
    refine hp_s (pc' := 29) (st' := [.int 0, .retAddr 2]) rfl rfl rfl ?_
    refine hp_s (pc' := 30) (st' := [.int 1, .int 0, .retAddr 2]) rfl rfl rfl ?_
    refine hp_s (pc' := 31) (st' := [.int 1, .retAddr 2]) rfl rfl rfl ?_
    refine hp_lds (v := 10) hro.2 rfl rfl (by decide +kernel) ?_
    intro g3a g3b
    refine hp_go (pc' := 49) rfl rfl rfl ?_
    refine hp_sta (k := 2) (pc' := 52) rfl rfl rfl ?_
    refine hp_s (pc' := 54) (st' := [.int 0, .retAddr 2]) rfl rfl rfl ?_
    refine hp_s (pc' := 55) (st' := [.int 4, .int 0, .retAddr 2]) rfl rfl rfl ?_
    refine hp_s (pc' := 56) (st' := [.int 0, .retAddr 2]) rfl rfl rfl ?_
    refine hp_s (pc' := 57) (st' := [.int 1, .int 0, .retAddr 2]) rfl rfl rfl ?_
    refine hp_s (pc' := 58) (st' := [.int 1, .retAddr 2]) rfl rfl rfl ?_
    refine hp_lds (v := 10) hro.2 rfl rfl (by decide +kernel) ?_
    intro g4a g4b
    refine hp_s (pc' := 61) (ls' := [(6, .int 10), (5, .int 0), (0, .ref 57), (1, .int 6), (2, .int 1), (3, .int x), (4, .int v)]) (st' := []) rfl rfl rfl ?_
    refine hp_s (pc' := 62) (st' := [.ref 57]) rfl rfl rfl ?_
    refine hp_get (k := 3) (pc' := 65) (v := (rI p 57 3)) rfl rfl rfl rfl rfl rfl ?_
    refine hp_s (pc' := 67) (st' := [.int 24, .int (rI p 57 3)]) rfl rfl rfl ?_
    refine hp_ic (pc' := 70) (t := 81) (a := (rI p 57 3).toInt) (b := 24) rfl rfl rfl rfl (by decide) (fun (h3 : 24 ≤ (rI p 57 3).toInt) => ?_) (fun (h4 : ¬ (24 ≤ (rI p 57 3).toInt)) => ?_)
    ·
      refine hp_s (pc' := 82) (st' := [.ref 57]) rfl rfl rfl ?_
      refine hp_s (pc' := 83) (st' := [.ref 57, .ref 57]) rfl rfl rfl ?_
      refine hp_get (k := 3) (pc' := 86) (v := (rI p 57 3)) rfl rfl rfl rfl rfl rfl ?_
      refine hp_s (pc' := 87) (st' := [.int 1, .int (rI p 57 3), .ref 57]) rfl rfl rfl ?_
      refine hp_z (pc' := 88) (e := (rI p 57 3) + 1) (st' := [.ref 57]) rfl rfl rfl ?_
      intro z8 hz8
      have ez8 := i_add hz8 (show (rI p 57 3).toInt = (rI p 57 3).toInt from rfl) (show (1 : Int32).toInt = 1 from by decide)
      refine hp_put (k := 3) (pc' := 91) rfl rfl rfl rfl rfl ?_
      intro p1 wp1 ep1
      have eB : p1 = hB1 p 10 := (by subst_vars; unfold hB1; first | rw [if_pos (by omega)] | rw [if_neg (by omega)])
      refine hp_s (pc' := 92) (st' := [.ref 57]) rfl rfl rfl ?_
      refine hp_s (pc' := 94) (st' := [.int 10, .ref 57]) rfl rfl rfl ?_
      refine hp_s (pc' := 95) (st' := [.int x, .int 10, .ref 57]) rfl rfl rfl ?_
      refine hp_s (pc' := 97) (st' := [.int v, .int x, .int 10, .ref 57]) rfl rfl rfl ?_
      refine hp_s (pc' := 98) (st' := [.int 1, .int v, .int x, .int 10, .ref 57]) rfl rfl rfl ?_
      refine hp_z (pc' := 99) (e := v + 1) (st' := [.int x, .int 10, .ref 57]) rfl rfl rfl ?_
      intro z9 hz9
      have ez9 := i_add hz9 (show v.toInt = v.toInt from rfl) (show (1 : Int32).toInt = 1 from by decide)
      refine hp_cv (r := 57) (o := 9) (kd := 1) (as := [.int 10, .int x, .int z9]) (rest := []) (pc' := 102) rfl rfl rfl rfl rfl rfl rfl rfl rfl (fun d1 => ?_)
      refine s_run10 hro (xi := x.toInt) rfl (vi := z9.toInt) rfl (by first | with_reducible assumption | omega | (rw [eB]; exact hKi_1 pre2) | (subst_vars; with_reducible (repeat (first | assumption | apply hKi_g)))) (by first | with_reducible assumption | omega | (rw [eB]; exact hKi_1 pre2) | (subst_vars; with_reducible (repeat (first | assumption | apply hKi_g)))) (by first | with_reducible assumption | omega | (rw [eB]; exact hKi_1 pre2) | (subst_vars; with_reducible (repeat (first | assumption | apply hKi_g)))) ?_
      intro y1 p2 h5 h6
      have qz := h5
      have qp := h6
      refine hp_id (st := [.int y1]) ?_
      refine hp_ri rfl rfl ?_
      first | (exact k0 _ _ (by first | (rw [qz, eB]; first | (rw [gO_1, gA_1]; rfl) | (rw [gA_1]; rfl) | rfl) | (rw [qp, eB]; first | (rw [gO_1]; rfl) | rfl)) (by first | (rw [qz, eB]; first | (rw [gO_1, gA_1]; rfl) | (rw [gA_1]; rfl) | rfl) | (rw [qp, eB]; first | (rw [gO_1]; rfl) | rfl))) | (exfalso; omega)
    ·
      refine hp_s (pc' := 71) (st' := [.ref 57]) rfl rfl rfl ?_
      refine hp_getr (k := 2) (w := .ref 59) (pc' := 74) rfl rfl rfl rfl rfl ?_
      refine hp_s (pc' := 75) (st' := [.ref 57, .ref 59]) rfl rfl rfl ?_
      refine hp_get (k := 3) (pc' := 78) (v := (rI p 57 3)) rfl rfl rfl rfl rfl rfl ?_
      refine hp_s (pc' := 80) (st' := [.int 10, .int (rI p 57 3), .ref 59]) rfl rfl rfl ?_
      refine hp_st (t := 100) rfl (.inl rfl) rfl rfl ?_
      intro p3 wp3 (p3a : 0 ≤ (rI p 57 3).toInt) (p3b : (rI p 57 3).toInt < 24) ep3
      refine hp_s (pc' := 82) (st' := [.ref 57]) rfl rfl rfl ?_
      refine hp_s (pc' := 83) (st' := [.ref 57, .ref 57]) rfl rfl rfl ?_
      refine hp_get (k := 3) (pc' := 86) (v := (rI p 57 3)) rfl rfl rfl rfl rfl (by rw [ep3, rI_o (by decide)]) ?_
      refine hp_s (pc' := 87) (st' := [.int 1, .int (rI p 57 3), .ref 57]) rfl rfl rfl ?_
      refine hp_z (pc' := 88) (e := (rI p 57 3) + 1) (st' := [.ref 57]) rfl rfl rfl ?_
      intro z10 hz10
      have ez10 := i_add hz10 (show (rI p 57 3).toInt = (rI p 57 3).toInt from rfl) (show (1 : Int32).toInt = 1 from by decide)
      refine hp_put (k := 3) (pc' := 91) rfl rfl rfl rfl rfl ?_
      intro p4 wp4 ep4
      have eB : p4 = hB1 p 10 := (by subst_vars; unfold hB1; first | rw [if_pos (by omega)] | rw [if_neg (by omega)])
      refine hp_s (pc' := 92) (st' := [.ref 57]) rfl rfl rfl ?_
      refine hp_s (pc' := 94) (st' := [.int 10, .ref 57]) rfl rfl rfl ?_
      refine hp_s (pc' := 95) (st' := [.int x, .int 10, .ref 57]) rfl rfl rfl ?_
      refine hp_s (pc' := 97) (st' := [.int v, .int x, .int 10, .ref 57]) rfl rfl rfl ?_
      refine hp_s (pc' := 98) (st' := [.int 1, .int v, .int x, .int 10, .ref 57]) rfl rfl rfl ?_
      refine hp_z (pc' := 99) (e := v + 1) (st' := [.int x, .int 10, .ref 57]) rfl rfl rfl ?_
      intro z11 hz11
      have ez11 := i_add hz11 (show v.toInt = v.toInt from rfl) (show (1 : Int32).toInt = 1 from by decide)
      refine hp_cv (r := 57) (o := 9) (kd := 1) (as := [.int 10, .int x, .int z11]) (rest := []) (pc' := 102) rfl rfl rfl rfl rfl rfl rfl rfl rfl (fun d2 => ?_)
      refine s_run10 hro (xi := x.toInt) rfl (vi := z11.toInt) rfl (by first | with_reducible assumption | omega | (rw [eB]; exact hKi_1 pre2) | (subst_vars; with_reducible (repeat (first | assumption | apply hKi_g)))) (by first | with_reducible assumption | omega | (rw [eB]; exact hKi_1 pre2) | (subst_vars; with_reducible (repeat (first | assumption | apply hKi_g)))) (by first | with_reducible assumption | omega | (rw [eB]; exact hKi_1 pre2) | (subst_vars; with_reducible (repeat (first | assumption | apply hKi_g)))) ?_
      intro y2 p5 h7 h8
      have qz := h7
      have qp := h8
      refine hp_id (st := [.int y2]) ?_
      refine hp_ri rfl rfl ?_
      first | (exact k0 _ _ (by first | (rw [qz, eB]; first | (rw [gO_1, gA_1]; rfl) | (rw [gA_1]; rfl) | rfl) | (rw [qp, eB]; first | (rw [gO_1]; rfl) | rfl)) (by first | (rw [qz, eB]; first | (rw [gO_1, gA_1]; rfl) | (rw [gA_1]; rfl) | rfl) | (rw [qp, eB]; first | (rw [gO_1]; rfl) | rfl))) | (exfalso; omega)
  ·
    refine hp_s (pc' := 8) (st' := [.int 0]) rfl rfl rfl ?_
    refine hp_ri rfl rfl ?_
    first | (exact k0 _ _ (by first | (rw [qz, eB]; first | (rw [gO_1, gA_1]; rfl) | (rw [gA_1]; rfl) | rfl) | (rw [qp, eB]; first | (rw [gO_1]; rfl) | rfl)) (by first | (rw [qz, eB]; first | (rw [gO_1, gA_1]; rfl) | (rw [gA_1]; rfl) | rfl) | (rw [qp, eB]; first | (rw [gO_1]; rfl) | rfl))) | (exfalso; omega)
theorem s_run11 {ro : List (List Int32)} {n d : Nat} {p : xH} {Q : Option Value → xH → Prop} {x : Int32} {xi : Int} {v : Int32} {vi : Int} (hro : jro ro) (hx : x.toInt = xi) (hv : v.toInt = vi) (pre0 : 0 ≤ vi) (pre1 : vi ≤ 1000) (pre2 : hKi p) (k0 : ∀ z : Int32, ∀ p2 : xH, (z = x ^^^ gA p) → (p2 = hBg p ([])) → Q (some (.int z)) p2) : hP ro n d (9, 7, 1, 1, k116) 0 (lv_args 0 [.ref 57, .int 11, .int x, .int v]) [] p Q := by
  subst hx
  subst hv
  refine hp_id (ls := [(0, .ref 57), (1, .int 11), (2, .int x), (3, .int v)]) ?_
  refine hp_s (pc' := 1) (st' := [.int 11]) rfl rfl rfl ?_
  refine hp_go (pc' := 153) rfl rfl rfl ?_
  refine hp_s (pc' := 154) (st' := [.int x]) rfl rfl rfl ?_
  refine hp_s (pc' := 155) (st' := [.ref 57, .int x]) rfl rfl rfl ?_
  refine hp_get (k := 4) (pc' := 158) (v := (rI p 57 4)) rfl rfl rfl rfl rfl rfl ?_
  refine hp_z (pc' := 159) (e := x ^^^ (rI p 57 4)) (st' := []) rfl rfl rfl ?_
  intro z1 hz1
  refine hp_ri rfl rfl ?_
  first | (exact k0 _ _ (by first | assumption | (subst_vars; first | rfl | (simp only [gO_g, gA_g, hBg_app]; done) | (simp only [gO_g, gA_g, hBg_app]; rfl))) (by first | assumption | (subst_vars; first | rfl | (simp only [gO_g, gA_g, hBg_app]; done) | (simp only [gO_g, gA_g, hBg_app]; rfl)))) | (exfalso; omega)
theorem s_from0_2 {ro : List (List Int32)} {n d : Nat} {p : xH} {Q : Option Value → xH → Prop} {x : Int32} {xi : Int} {v : Int32} {vi : Int} (hro : jro ro) (hx : x.toInt = xi) (hv : v.toInt = vi) (pre0 : 0 ≤ vi) (pre1 : vi ≤ 40) (pre2 : hKi p) (k0 : ∀ z : Int32, ∀ p2 : xH, (z = aQ (gO p) 0 (gA p) x) → (p2 = hBg p (nQ (gO p) 0)) → Q (some (.int z)) p2) : hP ro n d (9, 7, 1, 1, k115) 0 (lv_args 0 [.ref 57, .int 0, .int 2, .int x, .int v]) [] p Q := by
  subst hx
  subst hv
  refine hp_id (ls := [(0, .ref 57), (1, .int 0), (2, .int 2), (3, .int x), (4, .int v)]) ?_
  refine hp_s (pc' := 2) (st' := [.int v]) rfl rfl rfl ?_
  refine hp_s (pc' := 4) (st' := [.int 40, .int v]) rfl rfl rfl ?_
  refine hp_ic (pc' := 7) (t := 9) (a := v.toInt) (b := 40) rfl rfl rfl rfl (by decide) (fun (h1 : v.toInt ≤ 40) => ?_) (fun (h2 : ¬ (v.toInt ≤ 40)) => ?_)
  ·
    refine hp_s (pc' := 10) (st' := [.int 0]) rfl rfl rfl ?_
    refine hp_s (pc' := 12) (ls' := [(5, .int 0), (0, .ref 57), (1, .int 0), (2, .int 2), (3, .int x), (4, .int v)]) (st' := []) rfl rfl rfl ?_
    refine hp_s (pc' := 13) (st' := [.int 0]) rfl rfl rfl ?_
    refine hp_s (pc' := 15) (ls' := [(6, .int 0), (5, .int 0), (0, .ref 57), (1, .int 0), (2, .int 2), (3, .int x), (4, .int v)]) (st' := []) rfl rfl rfl ?_
    refine hp_s (pc' := 17) (st' := [.int 0]) rfl rfl rfl ?_
    refine hp_s (pc' := 19) (st' := [.int 8, .int 0]) rfl rfl rfl ?_
    refine hp_go (pc' := 22) rfl rfl rfl ?_
    refine hp_sta (k := 2) (pc' := 25) rfl rfl rfl ?_
    refine hp_s (pc' := 27) (st' := [.int 0, .retAddr 2]) rfl rfl rfl ?_
    refine hp_s (pc' := 28) (st' := [.int 4, .int 0, .retAddr 2]) rfl rfl rfl ?_
    refine hp_s (pc' := 29) (st' := [.int 0, .retAddr 2]) rfl rfl rfl ?_
    refine hp_s (pc' := 30) (st' := [.int 2, .int 0, .retAddr 2]) rfl rfl rfl ?_
    refine hp_s (pc' := 31) (st' := [.int 2, .retAddr 2]) rfl rfl rfl ?_
    refine hp_lds (v := 11) hro.2 rfl rfl (by decide +kernel) ?_
    intro g1a g1b
    refine hp_go (pc' := 49) rfl rfl rfl ?_
    refine hp_sta (k := 2) (pc' := 52) rfl rfl rfl ?_
    refine hp_s (pc' := 54) (st' := [.int 0, .retAddr 2]) rfl rfl rfl ?_
    refine hp_s (pc' := 55) (st' := [.int 4, .int 0, .retAddr 2]) rfl rfl rfl ?_
    refine hp_s (pc' := 56) (st' := [.int 0, .retAddr 2]) rfl rfl rfl ?_
    refine hp_s (pc' := 57) (st' := [.int 2, .int 0, .retAddr 2]) rfl rfl rfl ?_
    refine hp_s (pc' := 58) (st' := [.int 2, .retAddr 2]) rfl rfl rfl ?_
    refine hp_lds (v := 11) hro.2 rfl rfl (by decide +kernel) ?_
    intro g2a g2b
    refine hp_s (pc' := 61) (ls' := [(6, .int 11), (5, .int 0), (0, .ref 57), (1, .int 0), (2, .int 2), (3, .int x), (4, .int v)]) (st' := []) rfl rfl rfl ?_
    refine hp_s (pc' := 62) (st' := [.ref 57]) rfl rfl rfl ?_
    refine hp_get (k := 3) (pc' := 65) (v := (rI p 57 3)) rfl rfl rfl rfl rfl rfl ?_
    refine hp_s (pc' := 67) (st' := [.int 24, .int (rI p 57 3)]) rfl rfl rfl ?_
    refine hp_ic (pc' := 70) (t := 81) (a := (rI p 57 3).toInt) (b := 24) rfl rfl rfl rfl (by decide) (fun (h3 : 24 ≤ (rI p 57 3).toInt) => ?_) (fun (h4 : ¬ (24 ≤ (rI p 57 3).toInt)) => ?_)
    ·
      refine hp_s (pc' := 82) (st' := [.ref 57]) rfl rfl rfl ?_
      refine hp_s (pc' := 83) (st' := [.ref 57, .ref 57]) rfl rfl rfl ?_
      refine hp_get (k := 3) (pc' := 86) (v := (rI p 57 3)) rfl rfl rfl rfl rfl rfl ?_
      refine hp_s (pc' := 87) (st' := [.int 1, .int (rI p 57 3), .ref 57]) rfl rfl rfl ?_
      refine hp_z (pc' := 88) (e := (rI p 57 3) + 1) (st' := [.ref 57]) rfl rfl rfl ?_
      intro z5 hz5
      have ez5 := i_add hz5 (show (rI p 57 3).toInt = (rI p 57 3).toInt from rfl) (show (1 : Int32).toInt = 1 from by decide)
      refine hp_put (k := 3) (pc' := 91) rfl rfl rfl rfl rfl ?_
      intro p1 wp1 ep1
      have eB : p1 = hB1 p 11 := (by subst_vars; unfold hB1; first | rw [if_pos (by omega)] | rw [if_neg (by omega)])
      refine hp_s (pc' := 92) (st' := [.ref 57]) rfl rfl rfl ?_
      refine hp_s (pc' := 94) (st' := [.int 11, .ref 57]) rfl rfl rfl ?_
      refine hp_s (pc' := 95) (st' := [.int x, .int 11, .ref 57]) rfl rfl rfl ?_
      refine hp_s (pc' := 97) (st' := [.int v, .int x, .int 11, .ref 57]) rfl rfl rfl ?_
      refine hp_s (pc' := 98) (st' := [.int 1, .int v, .int x, .int 11, .ref 57]) rfl rfl rfl ?_
      refine hp_z (pc' := 99) (e := v + 1) (st' := [.int x, .int 11, .ref 57]) rfl rfl rfl ?_
      intro z6 hz6
      have ez6 := i_add hz6 (show v.toInt = v.toInt from rfl) (show (1 : Int32).toInt = 1 from by decide)
      refine hp_cv (r := 57) (o := 9) (kd := 1) (as := [.int 11, .int x, .int z6]) (rest := []) (pc' := 102) rfl rfl rfl rfl rfl rfl rfl rfl rfl (fun d1 => ?_)
      refine s_run11 hro (xi := x.toInt) rfl (vi := z6.toInt) rfl (by first | with_reducible assumption | omega | (rw [eB]; exact hKi_1 pre2) | (subst_vars; with_reducible (repeat (first | assumption | apply hKi_g)))) (by first | with_reducible assumption | omega | (rw [eB]; exact hKi_1 pre2) | (subst_vars; with_reducible (repeat (first | assumption | apply hKi_g)))) (by first | with_reducible assumption | omega | (rw [eB]; exact hKi_1 pre2) | (subst_vars; with_reducible (repeat (first | assumption | apply hKi_g)))) ?_
      intro y1 p2 h5 h6
      have qz := h5
      have qp := h6
      refine hp_id (st := [.int y1]) ?_
      refine hp_ri rfl rfl ?_
      first | (exact k0 _ _ (by first | (rw [qz, eB]; first | (rw [gO_1, gA_1]; rfl) | (rw [gA_1]; rfl) | rfl) | (rw [qp, eB]; first | (rw [gO_1]; rfl) | rfl)) (by first | (rw [qz, eB]; first | (rw [gO_1, gA_1]; rfl) | (rw [gA_1]; rfl) | rfl) | (rw [qp, eB]; first | (rw [gO_1]; rfl) | rfl))) | (exfalso; omega)
    ·
      refine hp_s (pc' := 71) (st' := [.ref 57]) rfl rfl rfl ?_
      refine hp_getr (k := 2) (w := .ref 59) (pc' := 74) rfl rfl rfl rfl rfl ?_
      refine hp_s (pc' := 75) (st' := [.ref 57, .ref 59]) rfl rfl rfl ?_
      refine hp_get (k := 3) (pc' := 78) (v := (rI p 57 3)) rfl rfl rfl rfl rfl rfl ?_
      refine hp_s (pc' := 80) (st' := [.int 11, .int (rI p 57 3), .ref 59]) rfl rfl rfl ?_
      refine hp_st (t := 100) rfl (.inl rfl) rfl rfl ?_
      intro p3 wp3 (p3a : 0 ≤ (rI p 57 3).toInt) (p3b : (rI p 57 3).toInt < 24) ep3
      refine hp_s (pc' := 82) (st' := [.ref 57]) rfl rfl rfl ?_
      refine hp_s (pc' := 83) (st' := [.ref 57, .ref 57]) rfl rfl rfl ?_
      refine hp_get (k := 3) (pc' := 86) (v := (rI p 57 3)) rfl rfl rfl rfl rfl (by rw [ep3, rI_o (by decide)]) ?_
      refine hp_s (pc' := 87) (st' := [.int 1, .int (rI p 57 3), .ref 57]) rfl rfl rfl ?_
      refine hp_z (pc' := 88) (e := (rI p 57 3) + 1) (st' := [.ref 57]) rfl rfl rfl ?_
      intro z7 hz7
      have ez7 := i_add hz7 (show (rI p 57 3).toInt = (rI p 57 3).toInt from rfl) (show (1 : Int32).toInt = 1 from by decide)
      refine hp_put (k := 3) (pc' := 91) rfl rfl rfl rfl rfl ?_
      intro p4 wp4 ep4
      have eB : p4 = hB1 p 11 := (by subst_vars; unfold hB1; first | rw [if_pos (by omega)] | rw [if_neg (by omega)])
      refine hp_s (pc' := 92) (st' := [.ref 57]) rfl rfl rfl ?_
      refine hp_s (pc' := 94) (st' := [.int 11, .ref 57]) rfl rfl rfl ?_
      refine hp_s (pc' := 95) (st' := [.int x, .int 11, .ref 57]) rfl rfl rfl ?_
      refine hp_s (pc' := 97) (st' := [.int v, .int x, .int 11, .ref 57]) rfl rfl rfl ?_
      refine hp_s (pc' := 98) (st' := [.int 1, .int v, .int x, .int 11, .ref 57]) rfl rfl rfl ?_
      refine hp_z (pc' := 99) (e := v + 1) (st' := [.int x, .int 11, .ref 57]) rfl rfl rfl ?_
      intro z8 hz8
      have ez8 := i_add hz8 (show v.toInt = v.toInt from rfl) (show (1 : Int32).toInt = 1 from by decide)
      refine hp_cv (r := 57) (o := 9) (kd := 1) (as := [.int 11, .int x, .int z8]) (rest := []) (pc' := 102) rfl rfl rfl rfl rfl rfl rfl rfl rfl (fun d2 => ?_)
      refine s_run11 hro (xi := x.toInt) rfl (vi := z8.toInt) rfl (by first | with_reducible assumption | omega | (rw [eB]; exact hKi_1 pre2) | (subst_vars; with_reducible (repeat (first | assumption | apply hKi_g)))) (by first | with_reducible assumption | omega | (rw [eB]; exact hKi_1 pre2) | (subst_vars; with_reducible (repeat (first | assumption | apply hKi_g)))) (by first | with_reducible assumption | omega | (rw [eB]; exact hKi_1 pre2) | (subst_vars; with_reducible (repeat (first | assumption | apply hKi_g)))) ?_
      intro y2 p5 h7 h8
      have qz := h7
      have qp := h8
      refine hp_id (st := [.int y2]) ?_
      refine hp_ri rfl rfl ?_
      first | (exact k0 _ _ (by first | (rw [qz, eB]; first | (rw [gO_1, gA_1]; rfl) | (rw [gA_1]; rfl) | rfl) | (rw [qp, eB]; first | (rw [gO_1]; rfl) | rfl)) (by first | (rw [qz, eB]; first | (rw [gO_1, gA_1]; rfl) | (rw [gA_1]; rfl) | rfl) | (rw [qp, eB]; first | (rw [gO_1]; rfl) | rfl))) | (exfalso; omega)
  ·
    refine hp_s (pc' := 8) (st' := [.int 0]) rfl rfl rfl ?_
    refine hp_ri rfl rfl ?_
    first | (exact k0 _ _ (by first | (rw [qz, eB]; first | (rw [gO_1, gA_1]; rfl) | (rw [gA_1]; rfl) | rfl) | (rw [qp, eB]; first | (rw [gO_1]; rfl) | rfl)) (by first | (rw [qz, eB]; first | (rw [gO_1, gA_1]; rfl) | (rw [gA_1]; rfl) | rfl) | (rw [qp, eB]; first | (rw [gO_1]; rfl) | rfl))) | (exfalso; omega)
theorem s_from1_2 {ro : List (List Int32)} {n d : Nat} {p : xH} {Q : Option Value → xH → Prop} {x : Int32} {xi : Int} {v : Int32} {vi : Int} (hro : jro ro) (hx : x.toInt = xi) (hv : v.toInt = vi) (pre0 : 0 ≤ vi) (pre1 : vi ≤ 40) (pre2 : hKi p) (k0 : ∀ z : Int32, ∀ p2 : xH, (z = aQ (gO p) 1 (gA p) x) → (p2 = hBg p (nQ (gO p) 1)) → Q (some (.int z)) p2) : hP ro n d (9, 7, 1, 1, k115) 0 (lv_args 0 [.ref 57, .int 1, .int 2, .int x, .int v]) [] p Q := by
  subst hx
  subst hv
  refine hp_id (ls := [(0, .ref 57), (1, .int 1), (2, .int 2), (3, .int x), (4, .int v)]) ?_
  refine hp_s (pc' := 2) (st' := [.int v]) rfl rfl rfl ?_
  refine hp_s (pc' := 4) (st' := [.int 40, .int v]) rfl rfl rfl ?_
  refine hp_ic (pc' := 7) (t := 9) (a := v.toInt) (b := 40) rfl rfl rfl rfl (by decide) (fun (h1 : v.toInt ≤ 40) => ?_) (fun (h2 : ¬ (v.toInt ≤ 40)) => ?_)
  ·
    refine hp_s (pc' := 10) (st' := [.int 1]) rfl rfl rfl ?_
    refine hp_s (pc' := 12) (ls' := [(5, .int 1), (0, .ref 57), (1, .int 1), (2, .int 2), (3, .int x), (4, .int v)]) (st' := []) rfl rfl rfl ?_
    refine hp_s (pc' := 13) (st' := [.int 0]) rfl rfl rfl ?_
    refine hp_s (pc' := 15) (ls' := [(6, .int 0), (5, .int 1), (0, .ref 57), (1, .int 1), (2, .int 2), (3, .int x), (4, .int v)]) (st' := []) rfl rfl rfl ?_
    refine hp_s (pc' := 17) (st' := [.int 0]) rfl rfl rfl ?_
    refine hp_s (pc' := 19) (st' := [.int 8, .int 0]) rfl rfl rfl ?_
    refine hp_go (pc' := 22) rfl rfl rfl ?_
    refine hp_sta (k := 2) (pc' := 25) rfl rfl rfl ?_
    refine hp_s (pc' := 27) (st' := [.int 1, .retAddr 2]) rfl rfl rfl ?_
    refine hp_s (pc' := 28) (st' := [.int 4, .int 1, .retAddr 2]) rfl rfl rfl ?_
    refine hp_s (pc' := 29) (st' := [.int 4, .retAddr 2]) rfl rfl rfl ?_
    refine hp_s (pc' := 30) (st' := [.int 2, .int 4, .retAddr 2]) rfl rfl rfl ?_
    refine hp_s (pc' := 31) (st' := [.int 6, .retAddr 2]) rfl rfl rfl ?_
    refine hp_lds (v := 0) hro.2 rfl rfl (by decide +kernel) ?_
    intro g1a g1b
    refine hp_go (pc' := 35) rfl rfl rfl ?_
    refine hp_sta (k := 1) (pc' := 38) rfl rfl rfl ?_
    refine hp_s (pc' := 40) (st' := [.int 1, .retAddr 1]) rfl rfl rfl ?_
    refine hp_lds (v := 0) hro.1 rfl rfl (by decide +kernel) ?_
    intro g2a g2b
    refine hp_s (pc' := 43) (ls' := [(5, .int 0), (6, .int 0), (0, .ref 57), (1, .int 1), (2, .int 2), (3, .int x), (4, .int v)]) (st' := []) rfl rfl rfl ?_
    refine hp_s (pc' := 46) (ls' := [(6, .int 1), (5, .int 0), (0, .ref 57), (1, .int 1), (2, .int 2), (3, .int x), (4, .int v)]) (st' := []) rfl rfl rfl ?_
    refine hp_go (pc' := 15) rfl rfl rfl ?_
    refine hp_s (pc' := 17) (st' := [.int 1]) rfl rfl rfl ?_
    refine hp_s (pc' := 19) (st' := [.int 8, .int 1]) rfl rfl rfl ?_
    refine hp_go (pc' := 22) rfl rfl rfl ?_
    refine hp_sta (k := 2) (pc' := 25) rfl rfl rfl ?_
    refine hp_s (pc' := 27) (st' := [.int 0, .retAddr 2]) rfl rfl rfl ?_
    refine hp_s (pc' := 28) (st' := [.int 4, .int 0, .retAddr 2]) rfl rfl rfl ?_
    refine hp_s (pc' := 29) (st' := [.int 0, .retAddr 2]) rfl rfl rfl ?_
    refine hp_s (pc' := 30) (st' := [.int 2, .int 0, .retAddr 2]) rfl rfl rfl ?_
    refine hp_s (pc' := 31) (st' := [.int 2, .retAddr 2]) rfl rfl rfl ?_
    refine hp_lds (v := 11) hro.2 rfl rfl (by decide +kernel) ?_
    intro g3a g3b
    refine hp_go (pc' := 49) rfl rfl rfl ?_
    refine hp_sta (k := 2) (pc' := 52) rfl rfl rfl ?_
    refine hp_s (pc' := 54) (st' := [.int 0, .retAddr 2]) rfl rfl rfl ?_
    refine hp_s (pc' := 55) (st' := [.int 4, .int 0, .retAddr 2]) rfl rfl rfl ?_
    refine hp_s (pc' := 56) (st' := [.int 0, .retAddr 2]) rfl rfl rfl ?_
    refine hp_s (pc' := 57) (st' := [.int 2, .int 0, .retAddr 2]) rfl rfl rfl ?_
    refine hp_s (pc' := 58) (st' := [.int 2, .retAddr 2]) rfl rfl rfl ?_
    refine hp_lds (v := 11) hro.2 rfl rfl (by decide +kernel) ?_
    intro g4a g4b
    refine hp_s (pc' := 61) (ls' := [(6, .int 11), (5, .int 0), (0, .ref 57), (1, .int 1), (2, .int 2), (3, .int x), (4, .int v)]) (st' := []) rfl rfl rfl ?_
    refine hp_s (pc' := 62) (st' := [.ref 57]) rfl rfl rfl ?_
    refine hp_get (k := 3) (pc' := 65) (v := (rI p 57 3)) rfl rfl rfl rfl rfl rfl ?_
    refine hp_s (pc' := 67) (st' := [.int 24, .int (rI p 57 3)]) rfl rfl rfl ?_
    refine hp_ic (pc' := 70) (t := 81) (a := (rI p 57 3).toInt) (b := 24) rfl rfl rfl rfl (by decide) (fun (h3 : 24 ≤ (rI p 57 3).toInt) => ?_) (fun (h4 : ¬ (24 ≤ (rI p 57 3).toInt)) => ?_)
    ·
      refine hp_s (pc' := 82) (st' := [.ref 57]) rfl rfl rfl ?_
      refine hp_s (pc' := 83) (st' := [.ref 57, .ref 57]) rfl rfl rfl ?_
      refine hp_get (k := 3) (pc' := 86) (v := (rI p 57 3)) rfl rfl rfl rfl rfl rfl ?_
      refine hp_s (pc' := 87) (st' := [.int 1, .int (rI p 57 3), .ref 57]) rfl rfl rfl ?_
      refine hp_z (pc' := 88) (e := (rI p 57 3) + 1) (st' := [.ref 57]) rfl rfl rfl ?_
      intro z8 hz8
      have ez8 := i_add hz8 (show (rI p 57 3).toInt = (rI p 57 3).toInt from rfl) (show (1 : Int32).toInt = 1 from by decide)
      refine hp_put (k := 3) (pc' := 91) rfl rfl rfl rfl rfl ?_
      intro p1 wp1 ep1
      have eB : p1 = hB1 p 11 := (by subst_vars; unfold hB1; first | rw [if_pos (by omega)] | rw [if_neg (by omega)])
      refine hp_s (pc' := 92) (st' := [.ref 57]) rfl rfl rfl ?_
      refine hp_s (pc' := 94) (st' := [.int 11, .ref 57]) rfl rfl rfl ?_
      refine hp_s (pc' := 95) (st' := [.int x, .int 11, .ref 57]) rfl rfl rfl ?_
      refine hp_s (pc' := 97) (st' := [.int v, .int x, .int 11, .ref 57]) rfl rfl rfl ?_
      refine hp_s (pc' := 98) (st' := [.int 1, .int v, .int x, .int 11, .ref 57]) rfl rfl rfl ?_
      refine hp_z (pc' := 99) (e := v + 1) (st' := [.int x, .int 11, .ref 57]) rfl rfl rfl ?_
      intro z9 hz9
      have ez9 := i_add hz9 (show v.toInt = v.toInt from rfl) (show (1 : Int32).toInt = 1 from by decide)
      refine hp_cv (r := 57) (o := 9) (kd := 1) (as := [.int 11, .int x, .int z9]) (rest := []) (pc' := 102) rfl rfl rfl rfl rfl rfl rfl rfl rfl (fun d1 => ?_)
      refine s_run11 hro (xi := x.toInt) rfl (vi := z9.toInt) rfl (by first | with_reducible assumption | omega | (rw [eB]; exact hKi_1 pre2) | (subst_vars; with_reducible (repeat (first | assumption | apply hKi_g)))) (by first | with_reducible assumption | omega | (rw [eB]; exact hKi_1 pre2) | (subst_vars; with_reducible (repeat (first | assumption | apply hKi_g)))) (by first | with_reducible assumption | omega | (rw [eB]; exact hKi_1 pre2) | (subst_vars; with_reducible (repeat (first | assumption | apply hKi_g)))) ?_
      intro y1 p2 h5 h6
      have qz := h5
      have qp := h6
      refine hp_id (st := [.int y1]) ?_
      refine hp_ri rfl rfl ?_
      first | (exact k0 _ _ (by first | (rw [qz, eB]; first | (rw [gO_1, gA_1]; rfl) | (rw [gA_1]; rfl) | rfl) | (rw [qp, eB]; first | (rw [gO_1]; rfl) | rfl)) (by first | (rw [qz, eB]; first | (rw [gO_1, gA_1]; rfl) | (rw [gA_1]; rfl) | rfl) | (rw [qp, eB]; first | (rw [gO_1]; rfl) | rfl))) | (exfalso; omega)
    ·
      refine hp_s (pc' := 71) (st' := [.ref 57]) rfl rfl rfl ?_
      refine hp_getr (k := 2) (w := .ref 59) (pc' := 74) rfl rfl rfl rfl rfl ?_
      refine hp_s (pc' := 75) (st' := [.ref 57, .ref 59]) rfl rfl rfl ?_
      refine hp_get (k := 3) (pc' := 78) (v := (rI p 57 3)) rfl rfl rfl rfl rfl rfl ?_
      refine hp_s (pc' := 80) (st' := [.int 11, .int (rI p 57 3), .ref 59]) rfl rfl rfl ?_
      refine hp_st (t := 100) rfl (.inl rfl) rfl rfl ?_
      intro p3 wp3 (p3a : 0 ≤ (rI p 57 3).toInt) (p3b : (rI p 57 3).toInt < 24) ep3
      refine hp_s (pc' := 82) (st' := [.ref 57]) rfl rfl rfl ?_
      refine hp_s (pc' := 83) (st' := [.ref 57, .ref 57]) rfl rfl rfl ?_
      refine hp_get (k := 3) (pc' := 86) (v := (rI p 57 3)) rfl rfl rfl rfl rfl (by rw [ep3, rI_o (by decide)]) ?_
      refine hp_s (pc' := 87) (st' := [.int 1, .int (rI p 57 3), .ref 57]) rfl rfl rfl ?_
      refine hp_z (pc' := 88) (e := (rI p 57 3) + 1) (st' := [.ref 57]) rfl rfl rfl ?_
      intro z10 hz10
      have ez10 := i_add hz10 (show (rI p 57 3).toInt = (rI p 57 3).toInt from rfl) (show (1 : Int32).toInt = 1 from by decide)
      refine hp_put (k := 3) (pc' := 91) rfl rfl rfl rfl rfl ?_
      intro p4 wp4 ep4
      have eB : p4 = hB1 p 11 := (by subst_vars; unfold hB1; first | rw [if_pos (by omega)] | rw [if_neg (by omega)])
      refine hp_s (pc' := 92) (st' := [.ref 57]) rfl rfl rfl ?_
      refine hp_s (pc' := 94) (st' := [.int 11, .ref 57]) rfl rfl rfl ?_
      refine hp_s (pc' := 95) (st' := [.int x, .int 11, .ref 57]) rfl rfl rfl ?_
      refine hp_s (pc' := 97) (st' := [.int v, .int x, .int 11, .ref 57]) rfl rfl rfl ?_
      refine hp_s (pc' := 98) (st' := [.int 1, .int v, .int x, .int 11, .ref 57]) rfl rfl rfl ?_
      refine hp_z (pc' := 99) (e := v + 1) (st' := [.int x, .int 11, .ref 57]) rfl rfl rfl ?_
      intro z11 hz11
      have ez11 := i_add hz11 (show v.toInt = v.toInt from rfl) (show (1 : Int32).toInt = 1 from by decide)
      refine hp_cv (r := 57) (o := 9) (kd := 1) (as := [.int 11, .int x, .int z11]) (rest := []) (pc' := 102) rfl rfl rfl rfl rfl rfl rfl rfl rfl (fun d2 => ?_)
      refine s_run11 hro (xi := x.toInt) rfl (vi := z11.toInt) rfl (by first | with_reducible assumption | omega | (rw [eB]; exact hKi_1 pre2) | (subst_vars; with_reducible (repeat (first | assumption | apply hKi_g)))) (by first | with_reducible assumption | omega | (rw [eB]; exact hKi_1 pre2) | (subst_vars; with_reducible (repeat (first | assumption | apply hKi_g)))) (by first | with_reducible assumption | omega | (rw [eB]; exact hKi_1 pre2) | (subst_vars; with_reducible (repeat (first | assumption | apply hKi_g)))) ?_
      intro y2 p5 h7 h8
      have qz := h7
      have qp := h8
      refine hp_id (st := [.int y2]) ?_
      refine hp_ri rfl rfl ?_
      first | (exact k0 _ _ (by first | (rw [qz, eB]; first | (rw [gO_1, gA_1]; rfl) | (rw [gA_1]; rfl) | rfl) | (rw [qp, eB]; first | (rw [gO_1]; rfl) | rfl)) (by first | (rw [qz, eB]; first | (rw [gO_1, gA_1]; rfl) | (rw [gA_1]; rfl) | rfl) | (rw [qp, eB]; first | (rw [gO_1]; rfl) | rfl))) | (exfalso; omega)
  ·
    refine hp_s (pc' := 8) (st' := [.int 0]) rfl rfl rfl ?_
    refine hp_ri rfl rfl ?_
    first | (exact k0 _ _ (by first | (rw [qz, eB]; first | (rw [gO_1, gA_1]; rfl) | (rw [gA_1]; rfl) | rfl) | (rw [qp, eB]; first | (rw [gO_1]; rfl) | rfl)) (by first | (rw [qz, eB]; first | (rw [gO_1, gA_1]; rfl) | (rw [gA_1]; rfl) | rfl) | (rw [qp, eB]; first | (rw [gO_1]; rfl) | rfl))) | (exfalso; omega)
theorem s_from2_2 {ro : List (List Int32)} {n d : Nat} {p : xH} {Q : Option Value → xH → Prop} {x : Int32} {xi : Int} {v : Int32} {vi : Int} (hro : jro ro) (hx : x.toInt = xi) (hv : v.toInt = vi) (pre0 : 0 ≤ vi) (pre1 : vi ≤ 40) (pre2 : hKi p) (k0 : ∀ z : Int32, ∀ p2 : xH, (z = aQ (gO p) 2 (gA p) x) → (p2 = hBg p (nQ (gO p) 2)) → Q (some (.int z)) p2) : hP ro n d (9, 7, 1, 1, k115) 0 (lv_args 0 [.ref 57, .int 2, .int 2, .int x, .int v]) [] p Q := by
  subst hx
  subst hv
  refine hp_id (ls := [(0, .ref 57), (1, .int 2), (2, .int 2), (3, .int x), (4, .int v)]) ?_
  refine hp_s (pc' := 2) (st' := [.int v]) rfl rfl rfl ?_
  refine hp_s (pc' := 4) (st' := [.int 40, .int v]) rfl rfl rfl ?_
  refine hp_ic (pc' := 7) (t := 9) (a := v.toInt) (b := 40) rfl rfl rfl rfl (by decide) (fun (h1 : v.toInt ≤ 40) => ?_) (fun (h2 : ¬ (v.toInt ≤ 40)) => ?_)
  ·
    refine hp_s (pc' := 10) (st' := [.int 2]) rfl rfl rfl ?_
    refine hp_s (pc' := 12) (ls' := [(5, .int 2), (0, .ref 57), (1, .int 2), (2, .int 2), (3, .int x), (4, .int v)]) (st' := []) rfl rfl rfl ?_
    refine hp_s (pc' := 13) (st' := [.int 0]) rfl rfl rfl ?_
    refine hp_s (pc' := 15) (ls' := [(6, .int 0), (5, .int 2), (0, .ref 57), (1, .int 2), (2, .int 2), (3, .int x), (4, .int v)]) (st' := []) rfl rfl rfl ?_
    refine hp_s (pc' := 17) (st' := [.int 0]) rfl rfl rfl ?_
    refine hp_s (pc' := 19) (st' := [.int 8, .int 0]) rfl rfl rfl ?_
    refine hp_go (pc' := 22) rfl rfl rfl ?_
    refine hp_sta (k := 2) (pc' := 25) rfl rfl rfl ?_
    refine hp_s (pc' := 27) (st' := [.int 2, .retAddr 2]) rfl rfl rfl ?_
    refine hp_s (pc' := 28) (st' := [.int 4, .int 2, .retAddr 2]) rfl rfl rfl ?_
    refine hp_s (pc' := 29) (st' := [.int 8, .retAddr 2]) rfl rfl rfl ?_
    refine hp_s (pc' := 30) (st' := [.int 2, .int 8, .retAddr 2]) rfl rfl rfl ?_
    refine hp_s (pc' := 31) (st' := [.int 10, .retAddr 2]) rfl rfl rfl ?_
    refine hp_lds (v := 0) hro.2 rfl rfl (by decide +kernel) ?_
    intro g1a g1b
    refine hp_go (pc' := 35) rfl rfl rfl ?_
    refine hp_sta (k := 1) (pc' := 38) rfl rfl rfl ?_
    refine hp_s (pc' := 40) (st' := [.int 2, .retAddr 1]) rfl rfl rfl ?_
    refine hp_lds (v := 0) hro.1 rfl rfl (by decide +kernel) ?_
    intro g2a g2b
    refine hp_s (pc' := 43) (ls' := [(5, .int 0), (6, .int 0), (0, .ref 57), (1, .int 2), (2, .int 2), (3, .int x), (4, .int v)]) (st' := []) rfl rfl rfl ?_
    refine hp_s (pc' := 46) (ls' := [(6, .int 1), (5, .int 0), (0, .ref 57), (1, .int 2), (2, .int 2), (3, .int x), (4, .int v)]) (st' := []) rfl rfl rfl ?_
    refine hp_go (pc' := 15) rfl rfl rfl ?_
    refine hp_s (pc' := 17) (st' := [.int 1]) rfl rfl rfl ?_
    refine hp_s (pc' := 19) (st' := [.int 8, .int 1]) rfl rfl rfl ?_
    refine hp_go (pc' := 22) rfl rfl rfl ?_
    refine hp_sta (k := 2) (pc' := 25) rfl rfl rfl ?_
    refine hp_s (pc' := 27) (st' := [.int 0, .retAddr 2]) rfl rfl rfl ?_
    refine hp_s (pc' := 28) (st' := [.int 4, .int 0, .retAddr 2]) rfl rfl rfl ?_
    refine hp_s (pc' := 29) (st' := [.int 0, .retAddr 2]) rfl rfl rfl ?_
    refine hp_s (pc' := 30) (st' := [.int 2, .int 0, .retAddr 2]) rfl rfl rfl ?_
    refine hp_s (pc' := 31) (st' := [.int 2, .retAddr 2]) rfl rfl rfl ?_
    refine hp_lds (v := 11) hro.2 rfl rfl (by decide +kernel) ?_
    intro g3a g3b
    refine hp_go (pc' := 49) rfl rfl rfl ?_
    refine hp_sta (k := 2) (pc' := 52) rfl rfl rfl ?_
    refine hp_s (pc' := 54) (st' := [.int 0, .retAddr 2]) rfl rfl rfl ?_
    refine hp_s (pc' := 55) (st' := [.int 4, .int 0, .retAddr 2]) rfl rfl rfl ?_
    refine hp_s (pc' := 56) (st' := [.int 0, .retAddr 2]) rfl rfl rfl ?_
    refine hp_s (pc' := 57) (st' := [.int 2, .int 0, .retAddr 2]) rfl rfl rfl ?_
    refine hp_s (pc' := 58) (st' := [.int 2, .retAddr 2]) rfl rfl rfl ?_
    refine hp_lds (v := 11) hro.2 rfl rfl (by decide +kernel) ?_
    intro g4a g4b
    refine hp_s (pc' := 61) (ls' := [(6, .int 11), (5, .int 0), (0, .ref 57), (1, .int 2), (2, .int 2), (3, .int x), (4, .int v)]) (st' := []) rfl rfl rfl ?_
    refine hp_s (pc' := 62) (st' := [.ref 57]) rfl rfl rfl ?_
    refine hp_get (k := 3) (pc' := 65) (v := (rI p 57 3)) rfl rfl rfl rfl rfl rfl ?_
    refine hp_s (pc' := 67) (st' := [.int 24, .int (rI p 57 3)]) rfl rfl rfl ?_
    refine hp_ic (pc' := 70) (t := 81) (a := (rI p 57 3).toInt) (b := 24) rfl rfl rfl rfl (by decide) (fun (h3 : 24 ≤ (rI p 57 3).toInt) => ?_) (fun (h4 : ¬ (24 ≤ (rI p 57 3).toInt)) => ?_)
    ·
      refine hp_s (pc' := 82) (st' := [.ref 57]) rfl rfl rfl ?_
      refine hp_s (pc' := 83) (st' := [.ref 57, .ref 57]) rfl rfl rfl ?_
      refine hp_get (k := 3) (pc' := 86) (v := (rI p 57 3)) rfl rfl rfl rfl rfl rfl ?_
      refine hp_s (pc' := 87) (st' := [.int 1, .int (rI p 57 3), .ref 57]) rfl rfl rfl ?_
      refine hp_z (pc' := 88) (e := (rI p 57 3) + 1) (st' := [.ref 57]) rfl rfl rfl ?_
      intro z8 hz8
      have ez8 := i_add hz8 (show (rI p 57 3).toInt = (rI p 57 3).toInt from rfl) (show (1 : Int32).toInt = 1 from by decide)
      refine hp_put (k := 3) (pc' := 91) rfl rfl rfl rfl rfl ?_
      intro p1 wp1 ep1
      have eB : p1 = hB1 p 11 := (by subst_vars; unfold hB1; first | rw [if_pos (by omega)] | rw [if_neg (by omega)])
      refine hp_s (pc' := 92) (st' := [.ref 57]) rfl rfl rfl ?_
      refine hp_s (pc' := 94) (st' := [.int 11, .ref 57]) rfl rfl rfl ?_
      refine hp_s (pc' := 95) (st' := [.int x, .int 11, .ref 57]) rfl rfl rfl ?_
      refine hp_s (pc' := 97) (st' := [.int v, .int x, .int 11, .ref 57]) rfl rfl rfl ?_
      refine hp_s (pc' := 98) (st' := [.int 1, .int v, .int x, .int 11, .ref 57]) rfl rfl rfl ?_
      refine hp_z (pc' := 99) (e := v + 1) (st' := [.int x, .int 11, .ref 57]) rfl rfl rfl ?_
      intro z9 hz9
      have ez9 := i_add hz9 (show v.toInt = v.toInt from rfl) (show (1 : Int32).toInt = 1 from by decide)
      refine hp_cv (r := 57) (o := 9) (kd := 1) (as := [.int 11, .int x, .int z9]) (rest := []) (pc' := 102) rfl rfl rfl rfl rfl rfl rfl rfl rfl (fun d1 => ?_)
      refine s_run11 hro (xi := x.toInt) rfl (vi := z9.toInt) rfl (by first | with_reducible assumption | omega | (rw [eB]; exact hKi_1 pre2) | (subst_vars; with_reducible (repeat (first | assumption | apply hKi_g)))) (by first | with_reducible assumption | omega | (rw [eB]; exact hKi_1 pre2) | (subst_vars; with_reducible (repeat (first | assumption | apply hKi_g)))) (by first | with_reducible assumption | omega | (rw [eB]; exact hKi_1 pre2) | (subst_vars; with_reducible (repeat (first | assumption | apply hKi_g)))) ?_
      intro y1 p2 h5 h6
      have qz := h5
      have qp := h6
      refine hp_id (st := [.int y1]) ?_
      refine hp_ri rfl rfl ?_
      first | (exact k0 _ _ (by first | (rw [qz, eB]; first | (rw [gO_1, gA_1]; rfl) | (rw [gA_1]; rfl) | rfl) | (rw [qp, eB]; first | (rw [gO_1]; rfl) | rfl)) (by first | (rw [qz, eB]; first | (rw [gO_1, gA_1]; rfl) | (rw [gA_1]; rfl) | rfl) | (rw [qp, eB]; first | (rw [gO_1]; rfl) | rfl))) | (exfalso; omega)
    ·
      refine hp_s (pc' := 71) (st' := [.ref 57]) rfl rfl rfl ?_
      refine hp_getr (k := 2) (w := .ref 59) (pc' := 74) rfl rfl rfl rfl rfl ?_
      refine hp_s (pc' := 75) (st' := [.ref 57, .ref 59]) rfl rfl rfl ?_
      refine hp_get (k := 3) (pc' := 78) (v := (rI p 57 3)) rfl rfl rfl rfl rfl rfl ?_
      refine hp_s (pc' := 80) (st' := [.int 11, .int (rI p 57 3), .ref 59]) rfl rfl rfl ?_
      refine hp_st (t := 100) rfl (.inl rfl) rfl rfl ?_
      intro p3 wp3 (p3a : 0 ≤ (rI p 57 3).toInt) (p3b : (rI p 57 3).toInt < 24) ep3
      refine hp_s (pc' := 82) (st' := [.ref 57]) rfl rfl rfl ?_
      refine hp_s (pc' := 83) (st' := [.ref 57, .ref 57]) rfl rfl rfl ?_
      refine hp_get (k := 3) (pc' := 86) (v := (rI p 57 3)) rfl rfl rfl rfl rfl (by rw [ep3, rI_o (by decide)]) ?_
      refine hp_s (pc' := 87) (st' := [.int 1, .int (rI p 57 3), .ref 57]) rfl rfl rfl ?_
      refine hp_z (pc' := 88) (e := (rI p 57 3) + 1) (st' := [.ref 57]) rfl rfl rfl ?_
      intro z10 hz10
      have ez10 := i_add hz10 (show (rI p 57 3).toInt = (rI p 57 3).toInt from rfl) (show (1 : Int32).toInt = 1 from by decide)
      refine hp_put (k := 3) (pc' := 91) rfl rfl rfl rfl rfl ?_
      intro p4 wp4 ep4
      have eB : p4 = hB1 p 11 := (by subst_vars; unfold hB1; first | rw [if_pos (by omega)] | rw [if_neg (by omega)])
      refine hp_s (pc' := 92) (st' := [.ref 57]) rfl rfl rfl ?_
      refine hp_s (pc' := 94) (st' := [.int 11, .ref 57]) rfl rfl rfl ?_
      refine hp_s (pc' := 95) (st' := [.int x, .int 11, .ref 57]) rfl rfl rfl ?_
      refine hp_s (pc' := 97) (st' := [.int v, .int x, .int 11, .ref 57]) rfl rfl rfl ?_
      refine hp_s (pc' := 98) (st' := [.int 1, .int v, .int x, .int 11, .ref 57]) rfl rfl rfl ?_
      refine hp_z (pc' := 99) (e := v + 1) (st' := [.int x, .int 11, .ref 57]) rfl rfl rfl ?_
      intro z11 hz11
      have ez11 := i_add hz11 (show v.toInt = v.toInt from rfl) (show (1 : Int32).toInt = 1 from by decide)
      refine hp_cv (r := 57) (o := 9) (kd := 1) (as := [.int 11, .int x, .int z11]) (rest := []) (pc' := 102) rfl rfl rfl rfl rfl rfl rfl rfl rfl (fun d2 => ?_)
      refine s_run11 hro (xi := x.toInt) rfl (vi := z11.toInt) rfl (by first | with_reducible assumption | omega | (rw [eB]; exact hKi_1 pre2) | (subst_vars; with_reducible (repeat (first | assumption | apply hKi_g)))) (by first | with_reducible assumption | omega | (rw [eB]; exact hKi_1 pre2) | (subst_vars; with_reducible (repeat (first | assumption | apply hKi_g)))) (by first | with_reducible assumption | omega | (rw [eB]; exact hKi_1 pre2) | (subst_vars; with_reducible (repeat (first | assumption | apply hKi_g)))) ?_
      intro y2 p5 h7 h8
      have qz := h7
      have qp := h8
      refine hp_id (st := [.int y2]) ?_
      refine hp_ri rfl rfl ?_
      first | (exact k0 _ _ (by first | (rw [qz, eB]; first | (rw [gO_1, gA_1]; rfl) | (rw [gA_1]; rfl) | rfl) | (rw [qp, eB]; first | (rw [gO_1]; rfl) | rfl)) (by first | (rw [qz, eB]; first | (rw [gO_1, gA_1]; rfl) | (rw [gA_1]; rfl) | rfl) | (rw [qp, eB]; first | (rw [gO_1]; rfl) | rfl))) | (exfalso; omega)
  ·
    refine hp_s (pc' := 8) (st' := [.int 0]) rfl rfl rfl ?_
    refine hp_ri rfl rfl ?_
    first | (exact k0 _ _ (by first | (rw [qz, eB]; first | (rw [gO_1, gA_1]; rfl) | (rw [gA_1]; rfl) | rfl) | (rw [qp, eB]; first | (rw [gO_1]; rfl) | rfl)) (by first | (rw [qz, eB]; first | (rw [gO_1, gA_1]; rfl) | (rw [gA_1]; rfl) | rfl) | (rw [qp, eB]; first | (rw [gO_1]; rfl) | rfl))) | (exfalso; omega)
theorem s_run40 {ro : List (List Int32)} {n d : Nat} {p : xH} {Q : Option Value → xH → Prop} {x : Int32} {xi : Int} {v : Int32} {vi : Int} (hro : jro ro) (hx : x.toInt = xi) (hv : v.toInt = vi) (pre0 : 0 ≤ vi) (pre1 : vi ≤ 40) (pre2 : hKi p) (k0 : ∀ z : Int32, ∀ p2 : xH, (z = (aQ (gO p) 2 (gA p) x) * 3) → (p2 = hBg p (nQ (gO p) 2)) → Q (some (.int z)) p2) : hP ro n d (9, 7, 1, 1, k116) 0 (lv_args 0 [.ref 57, .int 40, .int x, .int v]) [] p Q := by
  subst hx
  subst hv
  refine hp_id (ls := [(0, .ref 57), (1, .int 40), (2, .int x), (3, .int v)]) ?_
  refine hp_s (pc' := 1) (st' := [.int 40]) rfl rfl rfl ?_
  refine hp_go (pc' := 181) rfl rfl rfl ?_
  refine hp_s (pc' := 182) (st' := [.ref 57]) rfl rfl rfl ?_
  refine hp_s (pc' := 183) (st' := [.int 2, .ref 57]) rfl rfl rfl ?_
  refine hp_s (pc' := 184) (st' := [.int 2, .int 2, .ref 57]) rfl rfl rfl ?_
  refine hp_s (pc' := 185) (st' := [.int x, .int 2, .int 2, .ref 57]) rfl rfl rfl ?_
  refine hp_s (pc' := 186) (st' := [.int v, .int x, .int 2, .int 2, .ref 57]) rfl rfl rfl ?_
  refine hp_cv (r := 57) (o := 9) (kd := 1) (as := [.int 2, .int 2, .int x, .int v]) (rest := []) (pc' := 189) rfl rfl rfl rfl rfl rfl rfl rfl rfl (fun d1 => ?_)
  refine s_from2_2 hro (xi := x.toInt) rfl (vi := v.toInt) rfl (by first | with_reducible assumption | omega | (rw [eB]; exact hKi_1 pre2) | (subst_vars; with_reducible (repeat (first | assumption | apply hKi_g)))) (by first | with_reducible assumption | omega | (rw [eB]; exact hKi_1 pre2) | (subst_vars; with_reducible (repeat (first | assumption | apply hKi_g)))) (by first | with_reducible assumption | omega | (rw [eB]; exact hKi_1 pre2) | (subst_vars; with_reducible (repeat (first | assumption | apply hKi_g)))) ?_
  intro y1 p1 h1 h2
  refine hp_id (st := [.int y1]) ?_
  refine hp_s (pc' := 190) (st' := [.int 3, .int y1]) rfl rfl rfl ?_
  refine hp_z (pc' := 191) (e := y1 * 3) (st' := []) rfl rfl rfl ?_
  intro z1 hz1
  have ez1 := i_mul hz1 (show y1.toInt = y1.toInt from rfl) (show (3 : Int32).toInt = 3 from by decide)
  refine hp_ri rfl rfl ?_
  first | (exact k0 _ _ (by first | assumption | (subst_vars; first | rfl | (simp only [gO_g, gA_g, hBg_app]; done) | (simp only [gO_g, gA_g, hBg_app]; rfl))) (by first | assumption | (subst_vars; first | rfl | (simp only [gO_g, gA_g, hBg_app]; done) | (simp only [gO_g, gA_g, hBg_app]; rfl)))) | (exfalso; omega)
theorem s_from3_2 {ro : List (List Int32)} {n d : Nat} {p : xH} {Q : Option Value → xH → Prop} {x : Int32} {xi : Int} {v : Int32} {vi : Int} (hro : jro ro) (hx : x.toInt = xi) (hv : v.toInt = vi) (pre0 : 0 ≤ vi) (pre1 : vi ≤ 39) (pre2 : hKi p) (k0 : ∀ z : Int32, ∀ p2 : xH, (z = aQ (gO p) 3 (gA p) x) → (p2 = hBg p (nQ (gO p) 3)) → Q (some (.int z)) p2) : hP ro n d (9, 7, 1, 1, k115) 0 (lv_args 0 [.ref 57, .int 3, .int 2, .int x, .int v]) [] p Q := by
  subst hx
  subst hv
  refine hp_id (ls := [(0, .ref 57), (1, .int 3), (2, .int 2), (3, .int x), (4, .int v)]) ?_
  refine hp_s (pc' := 2) (st' := [.int v]) rfl rfl rfl ?_
  refine hp_s (pc' := 4) (st' := [.int 40, .int v]) rfl rfl rfl ?_
  refine hp_ic (pc' := 7) (t := 9) (a := v.toInt) (b := 40) rfl rfl rfl rfl (by decide) (fun (h1 : v.toInt ≤ 40) => ?_) (fun (h2 : ¬ (v.toInt ≤ 40)) => ?_)
  ·
    refine hp_s (pc' := 10) (st' := [.int 3]) rfl rfl rfl ?_
    refine hp_s (pc' := 12) (ls' := [(5, .int 3), (0, .ref 57), (1, .int 3), (2, .int 2), (3, .int x), (4, .int v)]) (st' := []) rfl rfl rfl ?_
    refine hp_s (pc' := 13) (st' := [.int 0]) rfl rfl rfl ?_
    refine hp_s (pc' := 15) (ls' := [(6, .int 0), (5, .int 3), (0, .ref 57), (1, .int 3), (2, .int 2), (3, .int x), (4, .int v)]) (st' := []) rfl rfl rfl ?_
    refine hp_s (pc' := 17) (st' := [.int 0]) rfl rfl rfl ?_
    refine hp_s (pc' := 19) (st' := [.int 8, .int 0]) rfl rfl rfl ?_
    refine hp_go (pc' := 22) rfl rfl rfl ?_
    refine hp_sta (k := 2) (pc' := 25) rfl rfl rfl ?_
    refine hp_s (pc' := 27) (st' := [.int 3, .retAddr 2]) rfl rfl rfl ?_
    refine hp_s (pc' := 28) (st' := [.int 4, .int 3, .retAddr 2]) rfl rfl rfl ?_
    refine hp_s (pc' := 29) (st' := [.int 12, .retAddr 2]) rfl rfl rfl ?_
    refine hp_s (pc' := 30) (st' := [.int 2, .int 12, .retAddr 2]) rfl rfl rfl ?_
    refine hp_s (pc' := 31) (st' := [.int 14, .retAddr 2]) rfl rfl rfl ?_
    refine hp_lds (v := 40) hro.2 rfl rfl (by decide +kernel) ?_
    intro g1a g1b
    refine hp_go (pc' := 49) rfl rfl rfl ?_
    refine hp_sta (k := 2) (pc' := 52) rfl rfl rfl ?_
    refine hp_s (pc' := 54) (st' := [.int 3, .retAddr 2]) rfl rfl rfl ?_
    refine hp_s (pc' := 55) (st' := [.int 4, .int 3, .retAddr 2]) rfl rfl rfl ?_
    refine hp_s (pc' := 56) (st' := [.int 12, .retAddr 2]) rfl rfl rfl ?_
    refine hp_s (pc' := 57) (st' := [.int 2, .int 12, .retAddr 2]) rfl rfl rfl ?_
    refine hp_s (pc' := 58) (st' := [.int 14, .retAddr 2]) rfl rfl rfl ?_
    refine hp_lds (v := 40) hro.2 rfl rfl (by decide +kernel) ?_
    intro g2a g2b
    refine hp_s (pc' := 61) (ls' := [(6, .int 40), (5, .int 3), (0, .ref 57), (1, .int 3), (2, .int 2), (3, .int x), (4, .int v)]) (st' := []) rfl rfl rfl ?_
    refine hp_s (pc' := 62) (st' := [.ref 57]) rfl rfl rfl ?_
    refine hp_get (k := 3) (pc' := 65) (v := (rI p 57 3)) rfl rfl rfl rfl rfl rfl ?_
    refine hp_s (pc' := 67) (st' := [.int 24, .int (rI p 57 3)]) rfl rfl rfl ?_
    refine hp_ic (pc' := 70) (t := 81) (a := (rI p 57 3).toInt) (b := 24) rfl rfl rfl rfl (by decide) (fun (h3 : 24 ≤ (rI p 57 3).toInt) => ?_) (fun (h4 : ¬ (24 ≤ (rI p 57 3).toInt)) => ?_)
    ·
      refine hp_s (pc' := 82) (st' := [.ref 57]) rfl rfl rfl ?_
      refine hp_s (pc' := 83) (st' := [.ref 57, .ref 57]) rfl rfl rfl ?_
      refine hp_get (k := 3) (pc' := 86) (v := (rI p 57 3)) rfl rfl rfl rfl rfl rfl ?_
      refine hp_s (pc' := 87) (st' := [.int 1, .int (rI p 57 3), .ref 57]) rfl rfl rfl ?_
      refine hp_z (pc' := 88) (e := (rI p 57 3) + 1) (st' := [.ref 57]) rfl rfl rfl ?_
      intro z5 hz5
      have ez5 := i_add hz5 (show (rI p 57 3).toInt = (rI p 57 3).toInt from rfl) (show (1 : Int32).toInt = 1 from by decide)
      refine hp_put (k := 3) (pc' := 91) rfl rfl rfl rfl rfl ?_
      intro p1 wp1 ep1
      have eB : p1 = hB1 p 40 := (by subst_vars; unfold hB1; first | rw [if_pos (by omega)] | rw [if_neg (by omega)])
      refine hp_s (pc' := 92) (st' := [.ref 57]) rfl rfl rfl ?_
      refine hp_s (pc' := 94) (st' := [.int 40, .ref 57]) rfl rfl rfl ?_
      refine hp_s (pc' := 95) (st' := [.int x, .int 40, .ref 57]) rfl rfl rfl ?_
      refine hp_s (pc' := 97) (st' := [.int v, .int x, .int 40, .ref 57]) rfl rfl rfl ?_
      refine hp_s (pc' := 98) (st' := [.int 1, .int v, .int x, .int 40, .ref 57]) rfl rfl rfl ?_
      refine hp_z (pc' := 99) (e := v + 1) (st' := [.int x, .int 40, .ref 57]) rfl rfl rfl ?_
      intro z6 hz6
      have ez6 := i_add hz6 (show v.toInt = v.toInt from rfl) (show (1 : Int32).toInt = 1 from by decide)
      refine hp_cv (r := 57) (o := 9) (kd := 1) (as := [.int 40, .int x, .int z6]) (rest := []) (pc' := 102) rfl rfl rfl rfl rfl rfl rfl rfl rfl (fun d1 => ?_)
      refine s_run40 hro (xi := x.toInt) rfl (vi := z6.toInt) rfl (by first | with_reducible assumption | omega | (rw [eB]; exact hKi_1 pre2) | (subst_vars; with_reducible (repeat (first | assumption | apply hKi_g)))) (by first | with_reducible assumption | omega | (rw [eB]; exact hKi_1 pre2) | (subst_vars; with_reducible (repeat (first | assumption | apply hKi_g)))) (by first | with_reducible assumption | omega | (rw [eB]; exact hKi_1 pre2) | (subst_vars; with_reducible (repeat (first | assumption | apply hKi_g)))) ?_
      intro y1 p2 h5 h6
      have qz := h5
      have qp := h6
      refine hp_id (st := [.int y1]) ?_
      refine hp_ri rfl rfl ?_
      first | (exact k0 _ _ (by first | (rw [qz, eB]; first | (rw [gO_1, gA_1]; rfl) | (rw [gA_1]; rfl) | rfl) | (rw [qp, eB]; first | (rw [gO_1]; rfl) | rfl)) (by first | (rw [qz, eB]; first | (rw [gO_1, gA_1]; rfl) | (rw [gA_1]; rfl) | rfl) | (rw [qp, eB]; first | (rw [gO_1]; rfl) | rfl))) | (exfalso; omega)
    ·
      refine hp_s (pc' := 71) (st' := [.ref 57]) rfl rfl rfl ?_
      refine hp_getr (k := 2) (w := .ref 59) (pc' := 74) rfl rfl rfl rfl rfl ?_
      refine hp_s (pc' := 75) (st' := [.ref 57, .ref 59]) rfl rfl rfl ?_
      refine hp_get (k := 3) (pc' := 78) (v := (rI p 57 3)) rfl rfl rfl rfl rfl rfl ?_
      refine hp_s (pc' := 80) (st' := [.int 40, .int (rI p 57 3), .ref 59]) rfl rfl rfl ?_
      refine hp_st (t := 100) rfl (.inl rfl) rfl rfl ?_
      intro p3 wp3 (p3a : 0 ≤ (rI p 57 3).toInt) (p3b : (rI p 57 3).toInt < 24) ep3
      refine hp_s (pc' := 82) (st' := [.ref 57]) rfl rfl rfl ?_
      refine hp_s (pc' := 83) (st' := [.ref 57, .ref 57]) rfl rfl rfl ?_
      refine hp_get (k := 3) (pc' := 86) (v := (rI p 57 3)) rfl rfl rfl rfl rfl (by rw [ep3, rI_o (by decide)]) ?_
      refine hp_s (pc' := 87) (st' := [.int 1, .int (rI p 57 3), .ref 57]) rfl rfl rfl ?_
      refine hp_z (pc' := 88) (e := (rI p 57 3) + 1) (st' := [.ref 57]) rfl rfl rfl ?_
      intro z7 hz7
      have ez7 := i_add hz7 (show (rI p 57 3).toInt = (rI p 57 3).toInt from rfl) (show (1 : Int32).toInt = 1 from by decide)
      refine hp_put (k := 3) (pc' := 91) rfl rfl rfl rfl rfl ?_
      intro p4 wp4 ep4
      have eB : p4 = hB1 p 40 := (by subst_vars; unfold hB1; first | rw [if_pos (by omega)] | rw [if_neg (by omega)])
      refine hp_s (pc' := 92) (st' := [.ref 57]) rfl rfl rfl ?_
      refine hp_s (pc' := 94) (st' := [.int 40, .ref 57]) rfl rfl rfl ?_
      refine hp_s (pc' := 95) (st' := [.int x, .int 40, .ref 57]) rfl rfl rfl ?_
      refine hp_s (pc' := 97) (st' := [.int v, .int x, .int 40, .ref 57]) rfl rfl rfl ?_
      refine hp_s (pc' := 98) (st' := [.int 1, .int v, .int x, .int 40, .ref 57]) rfl rfl rfl ?_
      refine hp_z (pc' := 99) (e := v + 1) (st' := [.int x, .int 40, .ref 57]) rfl rfl rfl ?_
      intro z8 hz8
      have ez8 := i_add hz8 (show v.toInt = v.toInt from rfl) (show (1 : Int32).toInt = 1 from by decide)
      refine hp_cv (r := 57) (o := 9) (kd := 1) (as := [.int 40, .int x, .int z8]) (rest := []) (pc' := 102) rfl rfl rfl rfl rfl rfl rfl rfl rfl (fun d2 => ?_)
      refine s_run40 hro (xi := x.toInt) rfl (vi := z8.toInt) rfl (by first | with_reducible assumption | omega | (rw [eB]; exact hKi_1 pre2) | (subst_vars; with_reducible (repeat (first | assumption | apply hKi_g)))) (by first | with_reducible assumption | omega | (rw [eB]; exact hKi_1 pre2) | (subst_vars; with_reducible (repeat (first | assumption | apply hKi_g)))) (by first | with_reducible assumption | omega | (rw [eB]; exact hKi_1 pre2) | (subst_vars; with_reducible (repeat (first | assumption | apply hKi_g)))) ?_
      intro y2 p5 h7 h8
      have qz := h7
      have qp := h8
      refine hp_id (st := [.int y2]) ?_
      refine hp_ri rfl rfl ?_
      first | (exact k0 _ _ (by first | (rw [qz, eB]; first | (rw [gO_1, gA_1]; rfl) | (rw [gA_1]; rfl) | rfl) | (rw [qp, eB]; first | (rw [gO_1]; rfl) | rfl)) (by first | (rw [qz, eB]; first | (rw [gO_1, gA_1]; rfl) | (rw [gA_1]; rfl) | rfl) | (rw [qp, eB]; first | (rw [gO_1]; rfl) | rfl))) | (exfalso; omega)
  ·
    refine hp_s (pc' := 8) (st' := [.int 0]) rfl rfl rfl ?_
    refine hp_ri rfl rfl ?_
    first | (exact k0 _ _ (by first | (rw [qz, eB]; first | (rw [gO_1, gA_1]; rfl) | (rw [gA_1]; rfl) | rfl) | (rw [qp, eB]; first | (rw [gO_1]; rfl) | rfl)) (by first | (rw [qz, eB]; first | (rw [gO_1, gA_1]; rfl) | (rw [gA_1]; rfl) | rfl) | (rw [qp, eB]; first | (rw [gO_1]; rfl) | rfl))) | (exfalso; omega)
theorem s_run50 {ro : List (List Int32)} {n d : Nat} {p : xH} {Q : Option Value → xH → Prop} {x : Int32} {xi : Int} {v : Int32} {vi : Int} (hro : jro ro) (hx : x.toInt = xi) (hv : v.toInt = vi) (pre0 : 0 ≤ vi) (pre1 : vi ≤ 39) (pre2 : hKi p) (k0 : ∀ z : Int32, ∀ p2 : xH, (z = aQ (gO p) 1 (gA p) x - aL (gO p) (gA p) 2) → (p2 = hBg p ((nQ (gO p) 1 ++ nL (gO p)))) → Q (some (.int z)) p2) : hP ro n d (9, 7, 1, 1, k116) 0 (lv_args 0 [.ref 57, .int 50, .int x, .int v]) [] p Q := by
  subst hx
  subst hv
  refine hp_id (ls := [(0, .ref 57), (1, .int 50), (2, .int x), (3, .int v)]) ?_
  refine hp_s (pc' := 1) (st' := [.int 50]) rfl rfl rfl ?_
  refine hp_go (pc' := 203) rfl rfl rfl ?_
  refine hp_s (pc' := 204) (st' := [.ref 57]) rfl rfl rfl ?_
  refine hp_s (pc' := 205) (st' := [.int 1, .ref 57]) rfl rfl rfl ?_
  refine hp_s (pc' := 206) (st' := [.int 2, .int 1, .ref 57]) rfl rfl rfl ?_
  refine hp_s (pc' := 207) (st' := [.int x, .int 2, .int 1, .ref 57]) rfl rfl rfl ?_
  refine hp_s (pc' := 208) (st' := [.int v, .int x, .int 2, .int 1, .ref 57]) rfl rfl rfl ?_
  refine hp_cv (r := 57) (o := 9) (kd := 1) (as := [.int 1, .int 2, .int x, .int v]) (rest := []) (pc' := 211) rfl rfl rfl rfl rfl rfl rfl rfl rfl (fun d1 => ?_)
  refine s_from1_2 hro (xi := x.toInt) rfl (vi := v.toInt) rfl (by first | with_reducible assumption | omega | (rw [eB]; exact hKi_1 pre2) | (subst_vars; with_reducible (repeat (first | assumption | apply hKi_g)))) (by first | with_reducible assumption | omega | (rw [eB]; exact hKi_1 pre2) | (subst_vars; with_reducible (repeat (first | assumption | apply hKi_g)))) (by first | with_reducible assumption | omega | (rw [eB]; exact hKi_1 pre2) | (subst_vars; with_reducible (repeat (first | assumption | apply hKi_g)))) ?_
  intro y1 p1 h1 h2
  refine hp_id (st := [.int y1]) ?_
  refine hp_s (pc' := 213) (ls' := [(5, .int y1), (0, .ref 57), (1, .int 50), (2, .int x), (3, .int v)]) (st' := []) rfl rfl rfl ?_
  refine hp_s (pc' := 215) (st' := [.int y1]) rfl rfl rfl ?_
  refine hp_s (pc' := 216) (st' := [.ref 57, .int y1]) rfl rfl rfl ?_
  refine hp_s (pc' := 217) (st' := [.int 0, .ref 57, .int y1]) rfl rfl rfl ?_
  refine hp_s (pc' := 218) (st' := [.int 2, .int 0, .ref 57, .int y1]) rfl rfl rfl ?_
  refine hp_s (pc' := 219) (st' := [.int v, .int 2, .int 0, .ref 57, .int y1]) rfl rfl rfl ?_
  refine hp_cv (r := 57) (o := 9) (kd := 1) (as := [.int 0, .int 2, .int v]) (rest := [.int y1]) (pc' := 222) rfl rfl rfl rfl rfl rfl rfl rfl rfl (fun d2 => ?_)
  refine s_own0 hro (xi := 2) (by decide) (vi := v.toInt) rfl (by first | with_reducible assumption | omega | (rw [eB]; exact hKi_1 pre2) | (subst_vars; with_reducible (repeat (first | assumption | apply hKi_g)))) (by first | with_reducible assumption | omega | (rw [eB]; exact hKi_1 pre2) | (subst_vars; with_reducible (repeat (first | assumption | apply hKi_g)))) (by first | with_reducible assumption | omega | (rw [eB]; exact hKi_1 pre2) | (subst_vars; with_reducible (repeat (first | assumption | apply hKi_g)))) ?_
  intro y2 p2 h3 h4
  refine hp_id (st := [.int y2, .int y1]) ?_
  refine hp_z (pc' := 223) (e := y1 - y2) (st' := []) rfl rfl rfl ?_
  intro z1 hz1
  have ez1 := i_sub hz1 (show y1.toInt = y1.toInt from rfl) (show y2.toInt = y2.toInt from rfl)
  refine hp_ri rfl rfl ?_
  first | (exact k0 _ _ (by first | assumption | (subst_vars; first | rfl | (simp only [gO_g, gA_g, hBg_app]; done) | (simp only [gO_g, gA_g, hBg_app]; rfl))) (by first | assumption | (subst_vars; first | rfl | (simp only [gO_g, gA_g, hBg_app]; done) | (simp only [gO_g, gA_g, hBg_app]; rfl)))) | (exfalso; omega)
theorem s_from4_2 {ro : List (List Int32)} {n d : Nat} {p : xH} {Q : Option Value → xH → Prop} {x : Int32} {xi : Int} {v : Int32} {vi : Int} (hro : jro ro) (hx : x.toInt = xi) (hv : v.toInt = vi) (pre0 : 0 ≤ vi) (pre1 : vi ≤ 38) (pre2 : hKi p) (k0 : ∀ z : Int32, ∀ p2 : xH, (z = aQ (gO p) 4 (gA p) x) → (p2 = hBg p (nQ (gO p) 4)) → Q (some (.int z)) p2) : hP ro n d (9, 7, 1, 1, k115) 0 (lv_args 0 [.ref 57, .int 4, .int 2, .int x, .int v]) [] p Q := by
  subst hx
  subst hv
  refine hp_id (ls := [(0, .ref 57), (1, .int 4), (2, .int 2), (3, .int x), (4, .int v)]) ?_
  refine hp_s (pc' := 2) (st' := [.int v]) rfl rfl rfl ?_
  refine hp_s (pc' := 4) (st' := [.int 40, .int v]) rfl rfl rfl ?_
  refine hp_ic (pc' := 7) (t := 9) (a := v.toInt) (b := 40) rfl rfl rfl rfl (by decide) (fun (h1 : v.toInt ≤ 40) => ?_) (fun (h2 : ¬ (v.toInt ≤ 40)) => ?_)
  ·
    refine hp_s (pc' := 10) (st' := [.int 4]) rfl rfl rfl ?_
    refine hp_s (pc' := 12) (ls' := [(5, .int 4), (0, .ref 57), (1, .int 4), (2, .int 2), (3, .int x), (4, .int v)]) (st' := []) rfl rfl rfl ?_
    refine hp_s (pc' := 13) (st' := [.int 0]) rfl rfl rfl ?_
    refine hp_s (pc' := 15) (ls' := [(6, .int 0), (5, .int 4), (0, .ref 57), (1, .int 4), (2, .int 2), (3, .int x), (4, .int v)]) (st' := []) rfl rfl rfl ?_
    refine hp_s (pc' := 17) (st' := [.int 0]) rfl rfl rfl ?_
    refine hp_s (pc' := 19) (st' := [.int 8, .int 0]) rfl rfl rfl ?_
    refine hp_go (pc' := 22) rfl rfl rfl ?_
    refine hp_sta (k := 2) (pc' := 25) rfl rfl rfl ?_
    refine hp_s (pc' := 27) (st' := [.int 4, .retAddr 2]) rfl rfl rfl ?_
    refine hp_s (pc' := 28) (st' := [.int 4, .int 4, .retAddr 2]) rfl rfl rfl ?_
    refine hp_s (pc' := 29) (st' := [.int 16, .retAddr 2]) rfl rfl rfl ?_
    refine hp_s (pc' := 30) (st' := [.int 2, .int 16, .retAddr 2]) rfl rfl rfl ?_
    refine hp_s (pc' := 31) (st' := [.int 18, .retAddr 2]) rfl rfl rfl ?_
    refine hp_lds (v := 50) hro.2 rfl rfl (by decide +kernel) ?_
    intro g1a g1b
    refine hp_go (pc' := 49) rfl rfl rfl ?_
    refine hp_sta (k := 2) (pc' := 52) rfl rfl rfl ?_
    refine hp_s (pc' := 54) (st' := [.int 4, .retAddr 2]) rfl rfl rfl ?_
    refine hp_s (pc' := 55) (st' := [.int 4, .int 4, .retAddr 2]) rfl rfl rfl ?_
    refine hp_s (pc' := 56) (st' := [.int 16, .retAddr 2]) rfl rfl rfl ?_
    refine hp_s (pc' := 57) (st' := [.int 2, .int 16, .retAddr 2]) rfl rfl rfl ?_
    refine hp_s (pc' := 58) (st' := [.int 18, .retAddr 2]) rfl rfl rfl ?_
    refine hp_lds (v := 50) hro.2 rfl rfl (by decide +kernel) ?_
    intro g2a g2b
    refine hp_s (pc' := 61) (ls' := [(6, .int 50), (5, .int 4), (0, .ref 57), (1, .int 4), (2, .int 2), (3, .int x), (4, .int v)]) (st' := []) rfl rfl rfl ?_
    refine hp_s (pc' := 62) (st' := [.ref 57]) rfl rfl rfl ?_
    refine hp_get (k := 3) (pc' := 65) (v := (rI p 57 3)) rfl rfl rfl rfl rfl rfl ?_
    refine hp_s (pc' := 67) (st' := [.int 24, .int (rI p 57 3)]) rfl rfl rfl ?_
    refine hp_ic (pc' := 70) (t := 81) (a := (rI p 57 3).toInt) (b := 24) rfl rfl rfl rfl (by decide) (fun (h3 : 24 ≤ (rI p 57 3).toInt) => ?_) (fun (h4 : ¬ (24 ≤ (rI p 57 3).toInt)) => ?_)
    ·
      refine hp_s (pc' := 82) (st' := [.ref 57]) rfl rfl rfl ?_
      refine hp_s (pc' := 83) (st' := [.ref 57, .ref 57]) rfl rfl rfl ?_
      refine hp_get (k := 3) (pc' := 86) (v := (rI p 57 3)) rfl rfl rfl rfl rfl rfl ?_
      refine hp_s (pc' := 87) (st' := [.int 1, .int (rI p 57 3), .ref 57]) rfl rfl rfl ?_
      refine hp_z (pc' := 88) (e := (rI p 57 3) + 1) (st' := [.ref 57]) rfl rfl rfl ?_
      intro z5 hz5
      have ez5 := i_add hz5 (show (rI p 57 3).toInt = (rI p 57 3).toInt from rfl) (show (1 : Int32).toInt = 1 from by decide)
      refine hp_put (k := 3) (pc' := 91) rfl rfl rfl rfl rfl ?_
      intro p1 wp1 ep1
      have eB : p1 = hB1 p 50 := (by subst_vars; unfold hB1; first | rw [if_pos (by omega)] | rw [if_neg (by omega)])
      refine hp_s (pc' := 92) (st' := [.ref 57]) rfl rfl rfl ?_
      refine hp_s (pc' := 94) (st' := [.int 50, .ref 57]) rfl rfl rfl ?_
      refine hp_s (pc' := 95) (st' := [.int x, .int 50, .ref 57]) rfl rfl rfl ?_
      refine hp_s (pc' := 97) (st' := [.int v, .int x, .int 50, .ref 57]) rfl rfl rfl ?_
      refine hp_s (pc' := 98) (st' := [.int 1, .int v, .int x, .int 50, .ref 57]) rfl rfl rfl ?_
      refine hp_z (pc' := 99) (e := v + 1) (st' := [.int x, .int 50, .ref 57]) rfl rfl rfl ?_
      intro z6 hz6
      have ez6 := i_add hz6 (show v.toInt = v.toInt from rfl) (show (1 : Int32).toInt = 1 from by decide)
      refine hp_cv (r := 57) (o := 9) (kd := 1) (as := [.int 50, .int x, .int z6]) (rest := []) (pc' := 102) rfl rfl rfl rfl rfl rfl rfl rfl rfl (fun d1 => ?_)
      refine s_run50 hro (xi := x.toInt) rfl (vi := z6.toInt) rfl (by first | with_reducible assumption | omega | (rw [eB]; exact hKi_1 pre2) | (subst_vars; with_reducible (repeat (first | assumption | apply hKi_g)))) (by first | with_reducible assumption | omega | (rw [eB]; exact hKi_1 pre2) | (subst_vars; with_reducible (repeat (first | assumption | apply hKi_g)))) (by first | with_reducible assumption | omega | (rw [eB]; exact hKi_1 pre2) | (subst_vars; with_reducible (repeat (first | assumption | apply hKi_g)))) ?_
      intro y1 p2 h5 h6
      have qz := h5
      have qp := h6
      refine hp_id (st := [.int y1]) ?_
      refine hp_ri rfl rfl ?_
      first | (exact k0 _ _ (by first | (rw [qz, eB]; first | (rw [gO_1, gA_1]; rfl) | (rw [gA_1]; rfl) | rfl) | (rw [qp, eB]; first | (rw [gO_1]; rfl) | rfl)) (by first | (rw [qz, eB]; first | (rw [gO_1, gA_1]; rfl) | (rw [gA_1]; rfl) | rfl) | (rw [qp, eB]; first | (rw [gO_1]; rfl) | rfl))) | (exfalso; omega)
    ·
      refine hp_s (pc' := 71) (st' := [.ref 57]) rfl rfl rfl ?_
      refine hp_getr (k := 2) (w := .ref 59) (pc' := 74) rfl rfl rfl rfl rfl ?_
      refine hp_s (pc' := 75) (st' := [.ref 57, .ref 59]) rfl rfl rfl ?_
      refine hp_get (k := 3) (pc' := 78) (v := (rI p 57 3)) rfl rfl rfl rfl rfl rfl ?_
      refine hp_s (pc' := 80) (st' := [.int 50, .int (rI p 57 3), .ref 59]) rfl rfl rfl ?_
      refine hp_st (t := 100) rfl (.inl rfl) rfl rfl ?_
      intro p3 wp3 (p3a : 0 ≤ (rI p 57 3).toInt) (p3b : (rI p 57 3).toInt < 24) ep3
      refine hp_s (pc' := 82) (st' := [.ref 57]) rfl rfl rfl ?_
      refine hp_s (pc' := 83) (st' := [.ref 57, .ref 57]) rfl rfl rfl ?_
      refine hp_get (k := 3) (pc' := 86) (v := (rI p 57 3)) rfl rfl rfl rfl rfl (by rw [ep3, rI_o (by decide)]) ?_
      refine hp_s (pc' := 87) (st' := [.int 1, .int (rI p 57 3), .ref 57]) rfl rfl rfl ?_
      refine hp_z (pc' := 88) (e := (rI p 57 3) + 1) (st' := [.ref 57]) rfl rfl rfl ?_
      intro z7 hz7
      have ez7 := i_add hz7 (show (rI p 57 3).toInt = (rI p 57 3).toInt from rfl) (show (1 : Int32).toInt = 1 from by decide)
      refine hp_put (k := 3) (pc' := 91) rfl rfl rfl rfl rfl ?_
      intro p4 wp4 ep4
      have eB : p4 = hB1 p 50 := (by subst_vars; unfold hB1; first | rw [if_pos (by omega)] | rw [if_neg (by omega)])
      refine hp_s (pc' := 92) (st' := [.ref 57]) rfl rfl rfl ?_
      refine hp_s (pc' := 94) (st' := [.int 50, .ref 57]) rfl rfl rfl ?_
      refine hp_s (pc' := 95) (st' := [.int x, .int 50, .ref 57]) rfl rfl rfl ?_
      refine hp_s (pc' := 97) (st' := [.int v, .int x, .int 50, .ref 57]) rfl rfl rfl ?_
      refine hp_s (pc' := 98) (st' := [.int 1, .int v, .int x, .int 50, .ref 57]) rfl rfl rfl ?_
      refine hp_z (pc' := 99) (e := v + 1) (st' := [.int x, .int 50, .ref 57]) rfl rfl rfl ?_
      intro z8 hz8
      have ez8 := i_add hz8 (show v.toInt = v.toInt from rfl) (show (1 : Int32).toInt = 1 from by decide)
      refine hp_cv (r := 57) (o := 9) (kd := 1) (as := [.int 50, .int x, .int z8]) (rest := []) (pc' := 102) rfl rfl rfl rfl rfl rfl rfl rfl rfl (fun d2 => ?_)
      refine s_run50 hro (xi := x.toInt) rfl (vi := z8.toInt) rfl (by first | with_reducible assumption | omega | (rw [eB]; exact hKi_1 pre2) | (subst_vars; with_reducible (repeat (first | assumption | apply hKi_g)))) (by first | with_reducible assumption | omega | (rw [eB]; exact hKi_1 pre2) | (subst_vars; with_reducible (repeat (first | assumption | apply hKi_g)))) (by first | with_reducible assumption | omega | (rw [eB]; exact hKi_1 pre2) | (subst_vars; with_reducible (repeat (first | assumption | apply hKi_g)))) ?_
      intro y2 p5 h7 h8
      have qz := h7
      have qp := h8
      refine hp_id (st := [.int y2]) ?_
      refine hp_ri rfl rfl ?_
      first | (exact k0 _ _ (by first | (rw [qz, eB]; first | (rw [gO_1, gA_1]; rfl) | (rw [gA_1]; rfl) | rfl) | (rw [qp, eB]; first | (rw [gO_1]; rfl) | rfl)) (by first | (rw [qz, eB]; first | (rw [gO_1, gA_1]; rfl) | (rw [gA_1]; rfl) | rfl) | (rw [qp, eB]; first | (rw [gO_1]; rfl) | rfl))) | (exfalso; omega)
  ·
    refine hp_s (pc' := 8) (st' := [.int 0]) rfl rfl rfl ?_
    refine hp_ri rfl rfl ?_
    first | (exact k0 _ _ (by first | (rw [qz, eB]; first | (rw [gO_1, gA_1]; rfl) | (rw [gA_1]; rfl) | rfl) | (rw [qp, eB]; first | (rw [gO_1]; rfl) | rfl)) (by first | (rw [qz, eB]; first | (rw [gO_1, gA_1]; rfl) | (rw [gA_1]; rfl) | rfl) | (rw [qp, eB]; first | (rw [gO_1]; rfl) | rfl))) | (exfalso; omega)
theorem s_from5_2 {ro : List (List Int32)} {n d : Nat} {p : xH} {Q : Option Value → xH → Prop} {x : Int32} {xi : Int} {v : Int32} {vi : Int} (hro : jro ro) (hx : x.toInt = xi) (hv : v.toInt = vi) (pre0 : 0 ≤ vi) (pre1 : vi ≤ 39) (pre2 : hKi p) (k0 : ∀ z : Int32, ∀ p2 : xH, (z = aQ (gO p) 5 (gA p) x) → (p2 = hBg p (nQ (gO p) 5)) → Q (some (.int z)) p2) : hP ro n d (9, 7, 1, 1, k115) 0 (lv_args 0 [.ref 57, .int 5, .int 2, .int x, .int v]) [] p Q := by
  subst hx
  subst hv
  refine hp_id (ls := [(0, .ref 57), (1, .int 5), (2, .int 2), (3, .int x), (4, .int v)]) ?_
  refine hp_s (pc' := 2) (st' := [.int v]) rfl rfl rfl ?_
  refine hp_s (pc' := 4) (st' := [.int 40, .int v]) rfl rfl rfl ?_
  refine hp_ic (pc' := 7) (t := 9) (a := v.toInt) (b := 40) rfl rfl rfl rfl (by decide) (fun (h1 : v.toInt ≤ 40) => ?_) (fun (h2 : ¬ (v.toInt ≤ 40)) => ?_)
  ·
    refine hp_s (pc' := 10) (st' := [.int 5]) rfl rfl rfl ?_
    refine hp_s (pc' := 12) (ls' := [(5, .int 5), (0, .ref 57), (1, .int 5), (2, .int 2), (3, .int x), (4, .int v)]) (st' := []) rfl rfl rfl ?_
    refine hp_s (pc' := 13) (st' := [.int 0]) rfl rfl rfl ?_
    refine hp_s (pc' := 15) (ls' := [(6, .int 0), (5, .int 5), (0, .ref 57), (1, .int 5), (2, .int 2), (3, .int x), (4, .int v)]) (st' := []) rfl rfl rfl ?_
    refine hp_s (pc' := 17) (st' := [.int 0]) rfl rfl rfl ?_
    refine hp_s (pc' := 19) (st' := [.int 8, .int 0]) rfl rfl rfl ?_
    refine hp_go (pc' := 22) rfl rfl rfl ?_
    refine hp_sta (k := 2) (pc' := 25) rfl rfl rfl ?_
    refine hp_s (pc' := 27) (st' := [.int 5, .retAddr 2]) rfl rfl rfl ?_
    refine hp_s (pc' := 28) (st' := [.int 4, .int 5, .retAddr 2]) rfl rfl rfl ?_
    refine hp_s (pc' := 29) (st' := [.int 20, .retAddr 2]) rfl rfl rfl ?_
    refine hp_s (pc' := 30) (st' := [.int 2, .int 20, .retAddr 2]) rfl rfl rfl ?_
    refine hp_s (pc' := 31) (st' := [.int 22, .retAddr 2]) rfl rfl rfl ?_
    refine hp_lds (v := 0) hro.2 rfl rfl (by decide +kernel) ?_
    intro g1a g1b
    refine hp_go (pc' := 35) rfl rfl rfl ?_
    refine hp_sta (k := 1) (pc' := 38) rfl rfl rfl ?_
    refine hp_s (pc' := 40) (st' := [.int 5, .retAddr 1]) rfl rfl rfl ?_
    refine hp_lds (v := 3) hro.1 rfl rfl (by decide +kernel) ?_
    intro g2a g2b
    refine hp_s (pc' := 43) (ls' := [(5, .int 3), (6, .int 0), (0, .ref 57), (1, .int 5), (2, .int 2), (3, .int x), (4, .int v)]) (st' := []) rfl rfl rfl ?_
    refine hp_s (pc' := 46) (ls' := [(6, .int 1), (5, .int 3), (0, .ref 57), (1, .int 5), (2, .int 2), (3, .int x), (4, .int v)]) (st' := []) rfl rfl rfl ?_
    refine hp_go (pc' := 15) rfl rfl rfl ?_
    refine hp_s (pc' := 17) (st' := [.int 1]) rfl rfl rfl ?_
    refine hp_s (pc' := 19) (st' := [.int 8, .int 1]) rfl rfl rfl ?_
    refine hp_go (pc' := 22) rfl rfl rfl ?_
    refine hp_sta (k := 2) (pc' := 25) rfl rfl rfl ?_
    refine hp_s (pc' := 27) (st' := [.int 3, .retAddr 2]) rfl rfl rfl ?_
    refine hp_s (pc' := 28) (st' := [.int 4, .int 3, .retAddr 2]) rfl rfl rfl ?_
    refine hp_s (pc' := 29) (st' := [.int 12, .retAddr 2]) rfl rfl rfl ?_
    refine hp_s (pc' := 30) (st' := [.int 2, .int 12, .retAddr 2]) rfl rfl rfl ?_
    refine hp_s (pc' := 31) (st' := [.int 14, .retAddr 2]) rfl rfl rfl ?_
    refine hp_lds (v := 40) hro.2 rfl rfl (by decide +kernel) ?_
    intro g3a g3b
    refine hp_go (pc' := 49) rfl rfl rfl ?_
    refine hp_sta (k := 2) (pc' := 52) rfl rfl rfl ?_
    refine hp_s (pc' := 54) (st' := [.int 3, .retAddr 2]) rfl rfl rfl ?_
    refine hp_s (pc' := 55) (st' := [.int 4, .int 3, .retAddr 2]) rfl rfl rfl ?_
    refine hp_s (pc' := 56) (st' := [.int 12, .retAddr 2]) rfl rfl rfl ?_
    refine hp_s (pc' := 57) (st' := [.int 2, .int 12, .retAddr 2]) rfl rfl rfl ?_
    refine hp_s (pc' := 58) (st' := [.int 14, .retAddr 2]) rfl rfl rfl ?_
    refine hp_lds (v := 40) hro.2 rfl rfl (by decide +kernel) ?_
    intro g4a g4b
    refine hp_s (pc' := 61) (ls' := [(6, .int 40), (5, .int 3), (0, .ref 57), (1, .int 5), (2, .int 2), (3, .int x), (4, .int v)]) (st' := []) rfl rfl rfl ?_
    refine hp_s (pc' := 62) (st' := [.ref 57]) rfl rfl rfl ?_
    refine hp_get (k := 3) (pc' := 65) (v := (rI p 57 3)) rfl rfl rfl rfl rfl rfl ?_
    refine hp_s (pc' := 67) (st' := [.int 24, .int (rI p 57 3)]) rfl rfl rfl ?_
    refine hp_ic (pc' := 70) (t := 81) (a := (rI p 57 3).toInt) (b := 24) rfl rfl rfl rfl (by decide) (fun (h3 : 24 ≤ (rI p 57 3).toInt) => ?_) (fun (h4 : ¬ (24 ≤ (rI p 57 3).toInt)) => ?_)
    ·
      refine hp_s (pc' := 82) (st' := [.ref 57]) rfl rfl rfl ?_
      refine hp_s (pc' := 83) (st' := [.ref 57, .ref 57]) rfl rfl rfl ?_
      refine hp_get (k := 3) (pc' := 86) (v := (rI p 57 3)) rfl rfl rfl rfl rfl rfl ?_
      refine hp_s (pc' := 87) (st' := [.int 1, .int (rI p 57 3), .ref 57]) rfl rfl rfl ?_
      refine hp_z (pc' := 88) (e := (rI p 57 3) + 1) (st' := [.ref 57]) rfl rfl rfl ?_
      intro z8 hz8
      have ez8 := i_add hz8 (show (rI p 57 3).toInt = (rI p 57 3).toInt from rfl) (show (1 : Int32).toInt = 1 from by decide)
      refine hp_put (k := 3) (pc' := 91) rfl rfl rfl rfl rfl ?_
      intro p1 wp1 ep1
      have eB : p1 = hB1 p 40 := (by subst_vars; unfold hB1; first | rw [if_pos (by omega)] | rw [if_neg (by omega)])
      refine hp_s (pc' := 92) (st' := [.ref 57]) rfl rfl rfl ?_
      refine hp_s (pc' := 94) (st' := [.int 40, .ref 57]) rfl rfl rfl ?_
      refine hp_s (pc' := 95) (st' := [.int x, .int 40, .ref 57]) rfl rfl rfl ?_
      refine hp_s (pc' := 97) (st' := [.int v, .int x, .int 40, .ref 57]) rfl rfl rfl ?_
      refine hp_s (pc' := 98) (st' := [.int 1, .int v, .int x, .int 40, .ref 57]) rfl rfl rfl ?_
      refine hp_z (pc' := 99) (e := v + 1) (st' := [.int x, .int 40, .ref 57]) rfl rfl rfl ?_
      intro z9 hz9
      have ez9 := i_add hz9 (show v.toInt = v.toInt from rfl) (show (1 : Int32).toInt = 1 from by decide)
      refine hp_cv (r := 57) (o := 9) (kd := 1) (as := [.int 40, .int x, .int z9]) (rest := []) (pc' := 102) rfl rfl rfl rfl rfl rfl rfl rfl rfl (fun d1 => ?_)
      refine s_run40 hro (xi := x.toInt) rfl (vi := z9.toInt) rfl (by first | with_reducible assumption | omega | (rw [eB]; exact hKi_1 pre2) | (subst_vars; with_reducible (repeat (first | assumption | apply hKi_g)))) (by first | with_reducible assumption | omega | (rw [eB]; exact hKi_1 pre2) | (subst_vars; with_reducible (repeat (first | assumption | apply hKi_g)))) (by first | with_reducible assumption | omega | (rw [eB]; exact hKi_1 pre2) | (subst_vars; with_reducible (repeat (first | assumption | apply hKi_g)))) ?_
      intro y1 p2 h5 h6
      have qz := h5
      have qp := h6
      refine hp_id (st := [.int y1]) ?_
      refine hp_ri rfl rfl ?_
      first | (exact k0 _ _ (by first | (rw [qz, eB]; first | (rw [gO_1, gA_1]; rfl) | (rw [gA_1]; rfl) | rfl) | (rw [qp, eB]; first | (rw [gO_1]; rfl) | rfl)) (by first | (rw [qz, eB]; first | (rw [gO_1, gA_1]; rfl) | (rw [gA_1]; rfl) | rfl) | (rw [qp, eB]; first | (rw [gO_1]; rfl) | rfl))) | (exfalso; omega)
    ·
      refine hp_s (pc' := 71) (st' := [.ref 57]) rfl rfl rfl ?_
      refine hp_getr (k := 2) (w := .ref 59) (pc' := 74) rfl rfl rfl rfl rfl ?_
      refine hp_s (pc' := 75) (st' := [.ref 57, .ref 59]) rfl rfl rfl ?_
      refine hp_get (k := 3) (pc' := 78) (v := (rI p 57 3)) rfl rfl rfl rfl rfl rfl ?_
      refine hp_s (pc' := 80) (st' := [.int 40, .int (rI p 57 3), .ref 59]) rfl rfl rfl ?_
      refine hp_st (t := 100) rfl (.inl rfl) rfl rfl ?_
      intro p3 wp3 (p3a : 0 ≤ (rI p 57 3).toInt) (p3b : (rI p 57 3).toInt < 24) ep3
      refine hp_s (pc' := 82) (st' := [.ref 57]) rfl rfl rfl ?_
      refine hp_s (pc' := 83) (st' := [.ref 57, .ref 57]) rfl rfl rfl ?_
      refine hp_get (k := 3) (pc' := 86) (v := (rI p 57 3)) rfl rfl rfl rfl rfl (by rw [ep3, rI_o (by decide)]) ?_
      refine hp_s (pc' := 87) (st' := [.int 1, .int (rI p 57 3), .ref 57]) rfl rfl rfl ?_
      refine hp_z (pc' := 88) (e := (rI p 57 3) + 1) (st' := [.ref 57]) rfl rfl rfl ?_
      intro z10 hz10
      have ez10 := i_add hz10 (show (rI p 57 3).toInt = (rI p 57 3).toInt from rfl) (show (1 : Int32).toInt = 1 from by decide)
      refine hp_put (k := 3) (pc' := 91) rfl rfl rfl rfl rfl ?_
      intro p4 wp4 ep4
      have eB : p4 = hB1 p 40 := (by subst_vars; unfold hB1; first | rw [if_pos (by omega)] | rw [if_neg (by omega)])
      refine hp_s (pc' := 92) (st' := [.ref 57]) rfl rfl rfl ?_
      refine hp_s (pc' := 94) (st' := [.int 40, .ref 57]) rfl rfl rfl ?_
      refine hp_s (pc' := 95) (st' := [.int x, .int 40, .ref 57]) rfl rfl rfl ?_
      refine hp_s (pc' := 97) (st' := [.int v, .int x, .int 40, .ref 57]) rfl rfl rfl ?_
      refine hp_s (pc' := 98) (st' := [.int 1, .int v, .int x, .int 40, .ref 57]) rfl rfl rfl ?_
      refine hp_z (pc' := 99) (e := v + 1) (st' := [.int x, .int 40, .ref 57]) rfl rfl rfl ?_
      intro z11 hz11
      have ez11 := i_add hz11 (show v.toInt = v.toInt from rfl) (show (1 : Int32).toInt = 1 from by decide)
      refine hp_cv (r := 57) (o := 9) (kd := 1) (as := [.int 40, .int x, .int z11]) (rest := []) (pc' := 102) rfl rfl rfl rfl rfl rfl rfl rfl rfl (fun d2 => ?_)
      refine s_run40 hro (xi := x.toInt) rfl (vi := z11.toInt) rfl (by first | with_reducible assumption | omega | (rw [eB]; exact hKi_1 pre2) | (subst_vars; with_reducible (repeat (first | assumption | apply hKi_g)))) (by first | with_reducible assumption | omega | (rw [eB]; exact hKi_1 pre2) | (subst_vars; with_reducible (repeat (first | assumption | apply hKi_g)))) (by first | with_reducible assumption | omega | (rw [eB]; exact hKi_1 pre2) | (subst_vars; with_reducible (repeat (first | assumption | apply hKi_g)))) ?_
      intro y2 p5 h7 h8
      have qz := h7
      have qp := h8
      refine hp_id (st := [.int y2]) ?_
      refine hp_ri rfl rfl ?_
      first | (exact k0 _ _ (by first | (rw [qz, eB]; first | (rw [gO_1, gA_1]; rfl) | (rw [gA_1]; rfl) | rfl) | (rw [qp, eB]; first | (rw [gO_1]; rfl) | rfl)) (by first | (rw [qz, eB]; first | (rw [gO_1, gA_1]; rfl) | (rw [gA_1]; rfl) | rfl) | (rw [qp, eB]; first | (rw [gO_1]; rfl) | rfl))) | (exfalso; omega)
  ·
    refine hp_s (pc' := 8) (st' := [.int 0]) rfl rfl rfl ?_
    refine hp_ri rfl rfl ?_
    first | (exact k0 _ _ (by first | (rw [qz, eB]; first | (rw [gO_1, gA_1]; rfl) | (rw [gA_1]; rfl) | rfl) | (rw [qp, eB]; first | (rw [gO_1]; rfl) | rfl)) (by first | (rw [qz, eB]; first | (rw [gO_1, gA_1]; rfl) | (rw [gA_1]; rfl) | rfl) | (rw [qp, eB]; first | (rw [gO_1]; rfl) | rfl))) | (exfalso; omega)
theorem s_from6_2 {ro : List (List Int32)} {n d : Nat} {p : xH} {Q : Option Value → xH → Prop} {x : Int32} {xi : Int} {v : Int32} {vi : Int} (hro : jro ro) (hx : x.toInt = xi) (hv : v.toInt = vi) (pre0 : 0 ≤ vi) (pre1 : vi ≤ 40) (pre2 : hKi p) (k0 : ∀ z : Int32, ∀ p2 : xH, (z = aQ (gO p) 6 (gA p) x) → (p2 = hBg p (nQ (gO p) 6)) → Q (some (.int z)) p2) : hP ro n d (9, 7, 1, 1, k115) 0 (lv_args 0 [.ref 57, .int 6, .int 2, .int x, .int v]) [] p Q := by
  subst hx
  subst hv
  refine hp_id (ls := [(0, .ref 57), (1, .int 6), (2, .int 2), (3, .int x), (4, .int v)]) ?_
  refine hp_s (pc' := 2) (st' := [.int v]) rfl rfl rfl ?_
  refine hp_s (pc' := 4) (st' := [.int 40, .int v]) rfl rfl rfl ?_
  refine hp_ic (pc' := 7) (t := 9) (a := v.toInt) (b := 40) rfl rfl rfl rfl (by decide) (fun (h1 : v.toInt ≤ 40) => ?_) (fun (h2 : ¬ (v.toInt ≤ 40)) => ?_)
  ·
    refine hp_s (pc' := 10) (st' := [.int 6]) rfl rfl rfl ?_
    refine hp_s (pc' := 12) (ls' := [(5, .int 6), (0, .ref 57), (1, .int 6), (2, .int 2), (3, .int x), (4, .int v)]) (st' := []) rfl rfl rfl ?_
    refine hp_s (pc' := 13) (st' := [.int 0]) rfl rfl rfl ?_
    refine hp_s (pc' := 15) (ls' := [(6, .int 0), (5, .int 6), (0, .ref 57), (1, .int 6), (2, .int 2), (3, .int x), (4, .int v)]) (st' := []) rfl rfl rfl ?_
    refine hp_s (pc' := 17) (st' := [.int 0]) rfl rfl rfl ?_
    refine hp_s (pc' := 19) (st' := [.int 8, .int 0]) rfl rfl rfl ?_
    refine hp_go (pc' := 22) rfl rfl rfl ?_
    refine hp_sta (k := 2) (pc' := 25) rfl rfl rfl ?_
    refine hp_s (pc' := 27) (st' := [.int 6, .retAddr 2]) rfl rfl rfl ?_
    refine hp_s (pc' := 28) (st' := [.int 4, .int 6, .retAddr 2]) rfl rfl rfl ?_
    refine hp_s (pc' := 29) (st' := [.int 24, .retAddr 2]) rfl rfl rfl ?_
    refine hp_s (pc' := 30) (st' := [.int 2, .int 24, .retAddr 2]) rfl rfl rfl ?_
    refine hp_s (pc' := 31) (st' := [.int 26, .retAddr 2]) rfl rfl rfl ?_
    refine hp_lds (v := 0) hro.2 rfl rfl (by decide +kernel) ?_
    intro g1a g1b
    refine hp_go (pc' := 35) rfl rfl rfl ?_
    refine hp_sta (k := 1) (pc' := 38) rfl rfl rfl ?_
    refine hp_s (pc' := 40) (st' := [.int 6, .retAddr 1]) rfl rfl rfl ?_
    refine hp_lds (v := 0) hro.1 rfl rfl (by decide +kernel) ?_
    intro g2a g2b
    refine hp_s (pc' := 43) (ls' := [(5, .int 0), (6, .int 0), (0, .ref 57), (1, .int 6), (2, .int 2), (3, .int x), (4, .int v)]) (st' := []) rfl rfl rfl ?_
    refine hp_s (pc' := 46) (ls' := [(6, .int 1), (5, .int 0), (0, .ref 57), (1, .int 6), (2, .int 2), (3, .int x), (4, .int v)]) (st' := []) rfl rfl rfl ?_
    refine hp_go (pc' := 15) rfl rfl rfl ?_
    refine hp_s (pc' := 17) (st' := [.int 1]) rfl rfl rfl ?_
    refine hp_s (pc' := 19) (st' := [.int 8, .int 1]) rfl rfl rfl ?_
    refine hp_go (pc' := 22) rfl rfl rfl ?_
    refine hp_sta (k := 2) (pc' := 25) rfl rfl rfl ?_
    refine hp_s (pc' := 27) (st' := [.int 0, .retAddr 2]) rfl rfl rfl ?_
    refine hp_s (pc' := 28) (st' := [.int 4, .int 0, .retAddr 2]) rfl rfl rfl ?_
    refine hp_s (pc' := 29) (st' := [.int 0, .retAddr 2]) rfl rfl rfl ?_
    refine hp_s (pc' := 30) (st' := [.int 2, .int 0, .retAddr 2]) rfl rfl rfl ?_
    refine hp_s (pc' := 31) (st' := [.int 2, .retAddr 2]) rfl rfl rfl ?_
    refine hp_lds (v := 11) hro.2 rfl rfl (by decide +kernel) ?_
    intro g3a g3b
    refine hp_go (pc' := 49) rfl rfl rfl ?_
    refine hp_sta (k := 2) (pc' := 52) rfl rfl rfl ?_
    refine hp_s (pc' := 54) (st' := [.int 0, .retAddr 2]) rfl rfl rfl ?_
    refine hp_s (pc' := 55) (st' := [.int 4, .int 0, .retAddr 2]) rfl rfl rfl ?_
    refine hp_s (pc' := 56) (st' := [.int 0, .retAddr 2]) rfl rfl rfl ?_
    refine hp_s (pc' := 57) (st' := [.int 2, .int 0, .retAddr 2]) rfl rfl rfl ?_
    refine hp_s (pc' := 58) (st' := [.int 2, .retAddr 2]) rfl rfl rfl ?_
    refine hp_lds (v := 11) hro.2 rfl rfl (by decide +kernel) ?_
    intro g4a g4b
    refine hp_s (pc' := 61) (ls' := [(6, .int 11), (5, .int 0), (0, .ref 57), (1, .int 6), (2, .int 2), (3, .int x), (4, .int v)]) (st' := []) rfl rfl rfl ?_
    refine hp_s (pc' := 62) (st' := [.ref 57]) rfl rfl rfl ?_
    refine hp_get (k := 3) (pc' := 65) (v := (rI p 57 3)) rfl rfl rfl rfl rfl rfl ?_
    refine hp_s (pc' := 67) (st' := [.int 24, .int (rI p 57 3)]) rfl rfl rfl ?_
    refine hp_ic (pc' := 70) (t := 81) (a := (rI p 57 3).toInt) (b := 24) rfl rfl rfl rfl (by decide) (fun (h3 : 24 ≤ (rI p 57 3).toInt) => ?_) (fun (h4 : ¬ (24 ≤ (rI p 57 3).toInt)) => ?_)
    ·
      refine hp_s (pc' := 82) (st' := [.ref 57]) rfl rfl rfl ?_
      refine hp_s (pc' := 83) (st' := [.ref 57, .ref 57]) rfl rfl rfl ?_
      refine hp_get (k := 3) (pc' := 86) (v := (rI p 57 3)) rfl rfl rfl rfl rfl rfl ?_
      refine hp_s (pc' := 87) (st' := [.int 1, .int (rI p 57 3), .ref 57]) rfl rfl rfl ?_
      refine hp_z (pc' := 88) (e := (rI p 57 3) + 1) (st' := [.ref 57]) rfl rfl rfl ?_
      intro z8 hz8
      have ez8 := i_add hz8 (show (rI p 57 3).toInt = (rI p 57 3).toInt from rfl) (show (1 : Int32).toInt = 1 from by decide)
      refine hp_put (k := 3) (pc' := 91) rfl rfl rfl rfl rfl ?_
      intro p1 wp1 ep1
      have eB : p1 = hB1 p 11 := (by subst_vars; unfold hB1; first | rw [if_pos (by omega)] | rw [if_neg (by omega)])
      refine hp_s (pc' := 92) (st' := [.ref 57]) rfl rfl rfl ?_
      refine hp_s (pc' := 94) (st' := [.int 11, .ref 57]) rfl rfl rfl ?_
      refine hp_s (pc' := 95) (st' := [.int x, .int 11, .ref 57]) rfl rfl rfl ?_
      refine hp_s (pc' := 97) (st' := [.int v, .int x, .int 11, .ref 57]) rfl rfl rfl ?_
      refine hp_s (pc' := 98) (st' := [.int 1, .int v, .int x, .int 11, .ref 57]) rfl rfl rfl ?_
      refine hp_z (pc' := 99) (e := v + 1) (st' := [.int x, .int 11, .ref 57]) rfl rfl rfl ?_
      intro z9 hz9
      have ez9 := i_add hz9 (show v.toInt = v.toInt from rfl) (show (1 : Int32).toInt = 1 from by decide)
      refine hp_cv (r := 57) (o := 9) (kd := 1) (as := [.int 11, .int x, .int z9]) (rest := []) (pc' := 102) rfl rfl rfl rfl rfl rfl rfl rfl rfl (fun d1 => ?_)
      refine s_run11 hro (xi := x.toInt) rfl (vi := z9.toInt) rfl (by first | with_reducible assumption | omega | (rw [eB]; exact hKi_1 pre2) | (subst_vars; with_reducible (repeat (first | assumption | apply hKi_g)))) (by first | with_reducible assumption | omega | (rw [eB]; exact hKi_1 pre2) | (subst_vars; with_reducible (repeat (first | assumption | apply hKi_g)))) (by first | with_reducible assumption | omega | (rw [eB]; exact hKi_1 pre2) | (subst_vars; with_reducible (repeat (first | assumption | apply hKi_g)))) ?_
      intro y1 p2 h5 h6
      have qz := h5
      have qp := h6
      refine hp_id (st := [.int y1]) ?_
      refine hp_ri rfl rfl ?_
      first | (exact k0 _ _ (by first | (rw [qz, eB]; first | (rw [gO_1, gA_1]; rfl) | (rw [gA_1]; rfl) | rfl) | (rw [qp, eB]; first | (rw [gO_1]; rfl) | rfl)) (by first | (rw [qz, eB]; first | (rw [gO_1, gA_1]; rfl) | (rw [gA_1]; rfl) | rfl) | (rw [qp, eB]; first | (rw [gO_1]; rfl) | rfl))) | (exfalso; omega)
    ·
      refine hp_s (pc' := 71) (st' := [.ref 57]) rfl rfl rfl ?_
      refine hp_getr (k := 2) (w := .ref 59) (pc' := 74) rfl rfl rfl rfl rfl ?_
      refine hp_s (pc' := 75) (st' := [.ref 57, .ref 59]) rfl rfl rfl ?_
      refine hp_get (k := 3) (pc' := 78) (v := (rI p 57 3)) rfl rfl rfl rfl rfl rfl ?_
      refine hp_s (pc' := 80) (st' := [.int 11, .int (rI p 57 3), .ref 59]) rfl rfl rfl ?_
      refine hp_st (t := 100) rfl (.inl rfl) rfl rfl ?_
      intro p3 wp3 (p3a : 0 ≤ (rI p 57 3).toInt) (p3b : (rI p 57 3).toInt < 24) ep3
      refine hp_s (pc' := 82) (st' := [.ref 57]) rfl rfl rfl ?_
      refine hp_s (pc' := 83) (st' := [.ref 57, .ref 57]) rfl rfl rfl ?_
      refine hp_get (k := 3) (pc' := 86) (v := (rI p 57 3)) rfl rfl rfl rfl rfl (by rw [ep3, rI_o (by decide)]) ?_
      refine hp_s (pc' := 87) (st' := [.int 1, .int (rI p 57 3), .ref 57]) rfl rfl rfl ?_
      refine hp_z (pc' := 88) (e := (rI p 57 3) + 1) (st' := [.ref 57]) rfl rfl rfl ?_
      intro z10 hz10
      have ez10 := i_add hz10 (show (rI p 57 3).toInt = (rI p 57 3).toInt from rfl) (show (1 : Int32).toInt = 1 from by decide)
      refine hp_put (k := 3) (pc' := 91) rfl rfl rfl rfl rfl ?_
      intro p4 wp4 ep4
      have eB : p4 = hB1 p 11 := (by subst_vars; unfold hB1; first | rw [if_pos (by omega)] | rw [if_neg (by omega)])
      refine hp_s (pc' := 92) (st' := [.ref 57]) rfl rfl rfl ?_
      refine hp_s (pc' := 94) (st' := [.int 11, .ref 57]) rfl rfl rfl ?_
      refine hp_s (pc' := 95) (st' := [.int x, .int 11, .ref 57]) rfl rfl rfl ?_
      refine hp_s (pc' := 97) (st' := [.int v, .int x, .int 11, .ref 57]) rfl rfl rfl ?_
      refine hp_s (pc' := 98) (st' := [.int 1, .int v, .int x, .int 11, .ref 57]) rfl rfl rfl ?_
      refine hp_z (pc' := 99) (e := v + 1) (st' := [.int x, .int 11, .ref 57]) rfl rfl rfl ?_
      intro z11 hz11
      have ez11 := i_add hz11 (show v.toInt = v.toInt from rfl) (show (1 : Int32).toInt = 1 from by decide)
      refine hp_cv (r := 57) (o := 9) (kd := 1) (as := [.int 11, .int x, .int z11]) (rest := []) (pc' := 102) rfl rfl rfl rfl rfl rfl rfl rfl rfl (fun d2 => ?_)
      refine s_run11 hro (xi := x.toInt) rfl (vi := z11.toInt) rfl (by first | with_reducible assumption | omega | (rw [eB]; exact hKi_1 pre2) | (subst_vars; with_reducible (repeat (first | assumption | apply hKi_g)))) (by first | with_reducible assumption | omega | (rw [eB]; exact hKi_1 pre2) | (subst_vars; with_reducible (repeat (first | assumption | apply hKi_g)))) (by first | with_reducible assumption | omega | (rw [eB]; exact hKi_1 pre2) | (subst_vars; with_reducible (repeat (first | assumption | apply hKi_g)))) ?_
      intro y2 p5 h7 h8
      have qz := h7
      have qp := h8
      refine hp_id (st := [.int y2]) ?_
      refine hp_ri rfl rfl ?_
      first | (exact k0 _ _ (by first | (rw [qz, eB]; first | (rw [gO_1, gA_1]; rfl) | (rw [gA_1]; rfl) | rfl) | (rw [qp, eB]; first | (rw [gO_1]; rfl) | rfl)) (by first | (rw [qz, eB]; first | (rw [gO_1, gA_1]; rfl) | (rw [gA_1]; rfl) | rfl) | (rw [qp, eB]; first | (rw [gO_1]; rfl) | rfl))) | (exfalso; omega)
  ·
    refine hp_s (pc' := 8) (st' := [.int 0]) rfl rfl rfl ?_
    refine hp_ri rfl rfl ?_
    first | (exact k0 _ _ (by first | (rw [qz, eB]; first | (rw [gO_1, gA_1]; rfl) | (rw [gA_1]; rfl) | rfl) | (rw [qp, eB]; first | (rw [gO_1]; rfl) | rfl)) (by first | (rw [qz, eB]; first | (rw [gO_1, gA_1]; rfl) | (rw [gA_1]; rfl) | rfl) | (rw [qp, eB]; first | (rw [gO_1]; rfl) | rfl))) | (exfalso; omega)
theorem s_from7_2 {ro : List (List Int32)} {n d : Nat} {p : xH} {Q : Option Value → xH → Prop} {x : Int32} {xi : Int} {v : Int32} {vi : Int} (hro : jro ro) (hx : x.toInt = xi) (hv : v.toInt = vi) (pre0 : 0 ≤ vi) (pre1 : vi ≤ 38) (pre2 : hKi p) (k0 : ∀ z : Int32, ∀ p2 : xH, (z = aQ (gO p) 7 (gA p) x) → (p2 = hBg p (nQ (gO p) 7)) → Q (some (.int z)) p2) : hP ro n d (9, 7, 1, 1, k115) 0 (lv_args 0 [.ref 57, .int 7, .int 2, .int x, .int v]) [] p Q := by
  subst hx
  subst hv
  refine hp_id (ls := [(0, .ref 57), (1, .int 7), (2, .int 2), (3, .int x), (4, .int v)]) ?_
  refine hp_s (pc' := 2) (st' := [.int v]) rfl rfl rfl ?_
  refine hp_s (pc' := 4) (st' := [.int 40, .int v]) rfl rfl rfl ?_
  refine hp_ic (pc' := 7) (t := 9) (a := v.toInt) (b := 40) rfl rfl rfl rfl (by decide) (fun (h1 : v.toInt ≤ 40) => ?_) (fun (h2 : ¬ (v.toInt ≤ 40)) => ?_)
  ·
    refine hp_s (pc' := 10) (st' := [.int 7]) rfl rfl rfl ?_
    refine hp_s (pc' := 12) (ls' := [(5, .int 7), (0, .ref 57), (1, .int 7), (2, .int 2), (3, .int x), (4, .int v)]) (st' := []) rfl rfl rfl ?_
    refine hp_s (pc' := 13) (st' := [.int 0]) rfl rfl rfl ?_
    refine hp_s (pc' := 15) (ls' := [(6, .int 0), (5, .int 7), (0, .ref 57), (1, .int 7), (2, .int 2), (3, .int x), (4, .int v)]) (st' := []) rfl rfl rfl ?_
    refine hp_s (pc' := 17) (st' := [.int 0]) rfl rfl rfl ?_
    refine hp_s (pc' := 19) (st' := [.int 8, .int 0]) rfl rfl rfl ?_
    refine hp_go (pc' := 22) rfl rfl rfl ?_
    refine hp_sta (k := 2) (pc' := 25) rfl rfl rfl ?_
    refine hp_s (pc' := 27) (st' := [.int 7, .retAddr 2]) rfl rfl rfl ?_
    refine hp_s (pc' := 28) (st' := [.int 4, .int 7, .retAddr 2]) rfl rfl rfl ?_
    refine hp_s (pc' := 29) (st' := [.int 28, .retAddr 2]) rfl rfl rfl ?_
    refine hp_s (pc' := 30) (st' := [.int 2, .int 28, .retAddr 2]) rfl rfl rfl ?_
    refine hp_s (pc' := 31) (st' := [.int 30, .retAddr 2]) rfl rfl rfl ?_
    refine hp_lds (v := 0) hro.2 rfl rfl (by decide +kernel) ?_
    intro g1a g1b
    refine hp_go (pc' := 35) rfl rfl rfl ?_
    refine hp_sta (k := 1) (pc' := 38) rfl rfl rfl ?_
    refine hp_s (pc' := 40) (st' := [.int 7, .retAddr 1]) rfl rfl rfl ?_
    refine hp_lds (v := 4) hro.1 rfl rfl (by decide +kernel) ?_
    intro g2a g2b
    refine hp_s (pc' := 43) (ls' := [(5, .int 4), (6, .int 0), (0, .ref 57), (1, .int 7), (2, .int 2), (3, .int x), (4, .int v)]) (st' := []) rfl rfl rfl ?_
    refine hp_s (pc' := 46) (ls' := [(6, .int 1), (5, .int 4), (0, .ref 57), (1, .int 7), (2, .int 2), (3, .int x), (4, .int v)]) (st' := []) rfl rfl rfl ?_
    refine hp_go (pc' := 15) rfl rfl rfl ?_
    refine hp_s (pc' := 17) (st' := [.int 1]) rfl rfl rfl ?_
    refine hp_s (pc' := 19) (st' := [.int 8, .int 1]) rfl rfl rfl ?_
    refine hp_go (pc' := 22) rfl rfl rfl ?_
    refine hp_sta (k := 2) (pc' := 25) rfl rfl rfl ?_
    refine hp_s (pc' := 27) (st' := [.int 4, .retAddr 2]) rfl rfl rfl ?_
    refine hp_s (pc' := 28) (st' := [.int 4, .int 4, .retAddr 2]) rfl rfl rfl ?_
    refine hp_s (pc' := 29) (st' := [.int 16, .retAddr 2]) rfl rfl rfl ?_
    refine hp_s (pc' := 30) (st' := [.int 2, .int 16, .retAddr 2]) rfl rfl rfl ?_
    refine hp_s (pc' := 31) (st' := [.int 18, .retAddr 2]) rfl rfl rfl ?_
    refine hp_lds (v := 50) hro.2 rfl rfl (by decide +kernel) ?_
    intro g3a g3b
    refine hp_go (pc' := 49) rfl rfl rfl ?_
    refine hp_sta (k := 2) (pc' := 52) rfl rfl rfl ?_
    refine hp_s (pc' := 54) (st' := [.int 4, .retAddr 2]) rfl rfl rfl ?_
    refine hp_s (pc' := 55) (st' := [.int 4, .int 4, .retAddr 2]) rfl rfl rfl ?_
    refine hp_s (pc' := 56) (st' := [.int 16, .retAddr 2]) rfl rfl rfl ?_
    refine hp_s (pc' := 57) (st' := [.int 2, .int 16, .retAddr 2]) rfl rfl rfl ?_
    refine hp_s (pc' := 58) (st' := [.int 18, .retAddr 2]) rfl rfl rfl ?_
    refine hp_lds (v := 50) hro.2 rfl rfl (by decide +kernel) ?_
    intro g4a g4b
    refine hp_s (pc' := 61) (ls' := [(6, .int 50), (5, .int 4), (0, .ref 57), (1, .int 7), (2, .int 2), (3, .int x), (4, .int v)]) (st' := []) rfl rfl rfl ?_
    refine hp_s (pc' := 62) (st' := [.ref 57]) rfl rfl rfl ?_
    refine hp_get (k := 3) (pc' := 65) (v := (rI p 57 3)) rfl rfl rfl rfl rfl rfl ?_
    refine hp_s (pc' := 67) (st' := [.int 24, .int (rI p 57 3)]) rfl rfl rfl ?_
    refine hp_ic (pc' := 70) (t := 81) (a := (rI p 57 3).toInt) (b := 24) rfl rfl rfl rfl (by decide) (fun (h3 : 24 ≤ (rI p 57 3).toInt) => ?_) (fun (h4 : ¬ (24 ≤ (rI p 57 3).toInt)) => ?_)
    ·
      refine hp_s (pc' := 82) (st' := [.ref 57]) rfl rfl rfl ?_
      refine hp_s (pc' := 83) (st' := [.ref 57, .ref 57]) rfl rfl rfl ?_
      refine hp_get (k := 3) (pc' := 86) (v := (rI p 57 3)) rfl rfl rfl rfl rfl rfl ?_
      refine hp_s (pc' := 87) (st' := [.int 1, .int (rI p 57 3), .ref 57]) rfl rfl rfl ?_
      refine hp_z (pc' := 88) (e := (rI p 57 3) + 1) (st' := [.ref 57]) rfl rfl rfl ?_
      intro z8 hz8
      have ez8 := i_add hz8 (show (rI p 57 3).toInt = (rI p 57 3).toInt from rfl) (show (1 : Int32).toInt = 1 from by decide)
      refine hp_put (k := 3) (pc' := 91) rfl rfl rfl rfl rfl ?_
      intro p1 wp1 ep1
      have eB : p1 = hB1 p 50 := (by subst_vars; unfold hB1; first | rw [if_pos (by omega)] | rw [if_neg (by omega)])
      refine hp_s (pc' := 92) (st' := [.ref 57]) rfl rfl rfl ?_
      refine hp_s (pc' := 94) (st' := [.int 50, .ref 57]) rfl rfl rfl ?_
      refine hp_s (pc' := 95) (st' := [.int x, .int 50, .ref 57]) rfl rfl rfl ?_
      refine hp_s (pc' := 97) (st' := [.int v, .int x, .int 50, .ref 57]) rfl rfl rfl ?_
      refine hp_s (pc' := 98) (st' := [.int 1, .int v, .int x, .int 50, .ref 57]) rfl rfl rfl ?_
      refine hp_z (pc' := 99) (e := v + 1) (st' := [.int x, .int 50, .ref 57]) rfl rfl rfl ?_
      intro z9 hz9
      have ez9 := i_add hz9 (show v.toInt = v.toInt from rfl) (show (1 : Int32).toInt = 1 from by decide)
      refine hp_cv (r := 57) (o := 9) (kd := 1) (as := [.int 50, .int x, .int z9]) (rest := []) (pc' := 102) rfl rfl rfl rfl rfl rfl rfl rfl rfl (fun d1 => ?_)
      refine s_run50 hro (xi := x.toInt) rfl (vi := z9.toInt) rfl (by first | with_reducible assumption | omega | (rw [eB]; exact hKi_1 pre2) | (subst_vars; with_reducible (repeat (first | assumption | apply hKi_g)))) (by first | with_reducible assumption | omega | (rw [eB]; exact hKi_1 pre2) | (subst_vars; with_reducible (repeat (first | assumption | apply hKi_g)))) (by first | with_reducible assumption | omega | (rw [eB]; exact hKi_1 pre2) | (subst_vars; with_reducible (repeat (first | assumption | apply hKi_g)))) ?_
      intro y1 p2 h5 h6
      have qz := h5
      have qp := h6
      refine hp_id (st := [.int y1]) ?_
      refine hp_ri rfl rfl ?_
      first | (exact k0 _ _ (by first | (rw [qz, eB]; first | (rw [gO_1, gA_1]; rfl) | (rw [gA_1]; rfl) | rfl) | (rw [qp, eB]; first | (rw [gO_1]; rfl) | rfl)) (by first | (rw [qz, eB]; first | (rw [gO_1, gA_1]; rfl) | (rw [gA_1]; rfl) | rfl) | (rw [qp, eB]; first | (rw [gO_1]; rfl) | rfl))) | (exfalso; omega)
    ·
      refine hp_s (pc' := 71) (st' := [.ref 57]) rfl rfl rfl ?_
      refine hp_getr (k := 2) (w := .ref 59) (pc' := 74) rfl rfl rfl rfl rfl ?_
      refine hp_s (pc' := 75) (st' := [.ref 57, .ref 59]) rfl rfl rfl ?_
      refine hp_get (k := 3) (pc' := 78) (v := (rI p 57 3)) rfl rfl rfl rfl rfl rfl ?_
      refine hp_s (pc' := 80) (st' := [.int 50, .int (rI p 57 3), .ref 59]) rfl rfl rfl ?_
      refine hp_st (t := 100) rfl (.inl rfl) rfl rfl ?_
      intro p3 wp3 (p3a : 0 ≤ (rI p 57 3).toInt) (p3b : (rI p 57 3).toInt < 24) ep3
      refine hp_s (pc' := 82) (st' := [.ref 57]) rfl rfl rfl ?_
      refine hp_s (pc' := 83) (st' := [.ref 57, .ref 57]) rfl rfl rfl ?_
      refine hp_get (k := 3) (pc' := 86) (v := (rI p 57 3)) rfl rfl rfl rfl rfl (by rw [ep3, rI_o (by decide)]) ?_
      refine hp_s (pc' := 87) (st' := [.int 1, .int (rI p 57 3), .ref 57]) rfl rfl rfl ?_
      refine hp_z (pc' := 88) (e := (rI p 57 3) + 1) (st' := [.ref 57]) rfl rfl rfl ?_
      intro z10 hz10
      have ez10 := i_add hz10 (show (rI p 57 3).toInt = (rI p 57 3).toInt from rfl) (show (1 : Int32).toInt = 1 from by decide)
      refine hp_put (k := 3) (pc' := 91) rfl rfl rfl rfl rfl ?_
      intro p4 wp4 ep4
      have eB : p4 = hB1 p 50 := (by subst_vars; unfold hB1; first | rw [if_pos (by omega)] | rw [if_neg (by omega)])
      refine hp_s (pc' := 92) (st' := [.ref 57]) rfl rfl rfl ?_
      refine hp_s (pc' := 94) (st' := [.int 50, .ref 57]) rfl rfl rfl ?_
      refine hp_s (pc' := 95) (st' := [.int x, .int 50, .ref 57]) rfl rfl rfl ?_
      refine hp_s (pc' := 97) (st' := [.int v, .int x, .int 50, .ref 57]) rfl rfl rfl ?_
      refine hp_s (pc' := 98) (st' := [.int 1, .int v, .int x, .int 50, .ref 57]) rfl rfl rfl ?_
      refine hp_z (pc' := 99) (e := v + 1) (st' := [.int x, .int 50, .ref 57]) rfl rfl rfl ?_
      intro z11 hz11
      have ez11 := i_add hz11 (show v.toInt = v.toInt from rfl) (show (1 : Int32).toInt = 1 from by decide)
      refine hp_cv (r := 57) (o := 9) (kd := 1) (as := [.int 50, .int x, .int z11]) (rest := []) (pc' := 102) rfl rfl rfl rfl rfl rfl rfl rfl rfl (fun d2 => ?_)
      refine s_run50 hro (xi := x.toInt) rfl (vi := z11.toInt) rfl (by first | with_reducible assumption | omega | (rw [eB]; exact hKi_1 pre2) | (subst_vars; with_reducible (repeat (first | assumption | apply hKi_g)))) (by first | with_reducible assumption | omega | (rw [eB]; exact hKi_1 pre2) | (subst_vars; with_reducible (repeat (first | assumption | apply hKi_g)))) (by first | with_reducible assumption | omega | (rw [eB]; exact hKi_1 pre2) | (subst_vars; with_reducible (repeat (first | assumption | apply hKi_g)))) ?_
      intro y2 p5 h7 h8
      have qz := h7
      have qp := h8
      refine hp_id (st := [.int y2]) ?_
      refine hp_ri rfl rfl ?_
      first | (exact k0 _ _ (by first | (rw [qz, eB]; first | (rw [gO_1, gA_1]; rfl) | (rw [gA_1]; rfl) | rfl) | (rw [qp, eB]; first | (rw [gO_1]; rfl) | rfl)) (by first | (rw [qz, eB]; first | (rw [gO_1, gA_1]; rfl) | (rw [gA_1]; rfl) | rfl) | (rw [qp, eB]; first | (rw [gO_1]; rfl) | rfl))) | (exfalso; omega)
  ·
    refine hp_s (pc' := 8) (st' := [.int 0]) rfl rfl rfl ?_
    refine hp_ri rfl rfl ?_
    first | (exact k0 _ _ (by first | (rw [qz, eB]; first | (rw [gO_1, gA_1]; rfl) | (rw [gA_1]; rfl) | rfl) | (rw [qp, eB]; first | (rw [gO_1]; rfl) | rfl)) (by first | (rw [qz, eB]; first | (rw [gO_1, gA_1]; rfl) | (rw [gA_1]; rfl) | rfl) | (rw [qp, eB]; first | (rw [gO_1]; rfl) | rfl))) | (exfalso; omega)
theorem s_fromA_2 {ro : List (List Int32)} {n d : Nat} {p : xH} {Q : Option Value → xH → Prop} {kd : Int32} {kdi : Int} {x : Int32} {xi : Int} {v : Int32} {vi : Int} (hro : jro ro) (hk : kd.toInt = kdi) (hx : x.toInt = xi) (hv : v.toInt = vi) (pre0 : 0 ≤ kdi) (pre1 : kdi < 8) (pre2 : 0 ≤ vi) (pre3 : vi ≤ 38) (pre4 : hKi p) (k0 : ∀ z : Int32, ∀ p2 : xH, (z = aQ (gO p) kdi (gA p) x) → (p2 = hBg p (nQ (gO p) kdi)) → Q (some (.int z)) p2) : hP ro n d (9, 7, 1, 1, k115) 0 (lv_args 0 [.ref 57, .int kd, .int 2, .int x, .int v]) [] p Q := by
  have h8 : kdi = 0 ∨ kdi = 1 ∨ kdi = 2 ∨ kdi = 3 ∨ kdi = 4 ∨ kdi = 5 ∨ kdi = 6 ∨ kdi = 7 := by omega
  rcases h8 with e | e | e | e | e | e | e | e
  · have e2 : kd = 0 := Int32.toInt_inj.mp (by rw [hk, e]; decide)
    subst e2; subst e; exact s_from0_2 hro hx hv pre2 (by omega) pre4 k0
  · have e2 : kd = 1 := Int32.toInt_inj.mp (by rw [hk, e]; decide)
    subst e2; subst e; exact s_from1_2 hro hx hv pre2 (by omega) pre4 k0
  · have e2 : kd = 2 := Int32.toInt_inj.mp (by rw [hk, e]; decide)
    subst e2; subst e; exact s_from2_2 hro hx hv pre2 (by omega) pre4 k0
  · have e2 : kd = 3 := Int32.toInt_inj.mp (by rw [hk, e]; decide)
    subst e2; subst e; exact s_from3_2 hro hx hv pre2 (by omega) pre4 k0
  · have e2 : kd = 4 := Int32.toInt_inj.mp (by rw [hk, e]; decide)
    subst e2; subst e; exact s_from4_2 hro hx hv pre2 (by omega) pre4 k0
  · have e2 : kd = 5 := Int32.toInt_inj.mp (by rw [hk, e]; decide)
    subst e2; subst e; exact s_from5_2 hro hx hv pre2 (by omega) pre4 k0
  · have e2 : kd = 6 := Int32.toInt_inj.mp (by rw [hk, e]; decide)
    subst e2; subst e; exact s_from6_2 hro hx hv pre2 (by omega) pre4 k0
  · have e2 : kd = 7 := Int32.toInt_inj.mp (by rw [hk, e]; decide)
    subst e2; subst e; exact s_from7_2 hro hx hv pre2 (by omega) pre4 k0
theorem s_own2 {ro : List (List Int32)} {n d : Nat} {p : xH} {Q : Option Value → xH → Prop} {x : Int32} {xi : Int} {v : Int32} {vi : Int} (hro : jro ro) (hx : x.toInt = xi) (hv : v.toInt = vi) (pre0 : 0 ≤ vi) (pre1 : vi ≤ 38) (pre2 : hKi p) (k0 : ∀ z : Int32, ∀ p2 : xH, (z = aQ (gO p) (gO p) (gA p) x) → (p2 = hBg p (nQ (gO p) (gO p))) → Q (some (.int z)) p2) : hP ro n d (9, 4, 1, 1, k114) 0 (lv_args 0 [.ref 57, .int 2, .int x, .int v]) [] p Q := by
  subst hx
  subst hv
  refine hp_id (ls := [(0, .ref 57), (1, .int 2), (2, .int x), (3, .int v)]) ?_
  refine hp_s (pc' := 1) (st' := [.ref 57]) rfl rfl rfl ?_
  refine hp_s (pc' := 2) (st' := [.ref 57, .ref 57]) rfl rfl rfl ?_
  refine hp_getr (k := 0) (w := .ref 58) (pc' := 5) rfl rfl rfl rfl rfl ?_
  refine hp_s (pc' := 6) (st' := [.ref 57, .ref 58, .ref 57]) rfl rfl rfl ?_
  refine hp_get (k := 4) (pc' := 9) (v := (rI p 57 4)) rfl rfl rfl rfl rfl rfl ?_
  refine hp_ld (t := 100) (v := (rI p 58 (rI p 57 4).toInt.toNat)) rfl (.inl rfl) rfl rfl rfl ?_
  intro (g1a : 0 ≤ (rI p 57 4).toInt) (g1b : (rI p 57 4).toInt < 50)
  refine hp_s (pc' := 11) (st' := [.int 2, .int ((rI p 58 (rI p 57 4).toInt.toNat)), .ref 57]) rfl rfl rfl ?_
  refine hp_s (pc' := 12) (st' := [.int x, .int 2, .int ((rI p 58 (rI p 57 4).toInt.toNat)), .ref 57]) rfl rfl rfl ?_
  refine hp_s (pc' := 13) (st' := [.int v, .int x, .int 2, .int ((rI p 58 (rI p 57 4).toInt.toNat)), .ref 57]) rfl rfl rfl ?_
  refine hp_cv (r := 57) (o := 9) (kd := 1) (as := [.int ((rI p 58 (rI p 57 4).toInt.toNat)), .int 2, .int x, .int v]) (rest := []) (pc' := 16) rfl rfl rfl rfl rfl rfl rfl rfl rfl (fun d1 => ?_)
  refine s_fromA_2 hro (kdi := ((rI p 58 (rI p 57 4).toInt.toNat)).toInt) rfl (xi := x.toInt) rfl (vi := v.toInt) rfl (by first | with_reducible assumption | omega | exact (pre2 _).1 | exact (pre2 _).2) (by first | with_reducible assumption | omega | exact (pre2 _).1 | exact (pre2 _).2) (by first | with_reducible assumption | omega | exact (pre2 _).1 | exact (pre2 _).2) (by first | with_reducible assumption | omega | exact (pre2 _).1 | exact (pre2 _).2) (by first | with_reducible assumption | omega | exact (pre2 _).1 | exact (pre2 _).2) ?_
  intro y1 p1 h1 h2
  refine hp_id (st := [.int y1]) ?_
  refine hp_ri rfl rfl ?_
  first | (exact k0 _ _ (by assumption) (by assumption)) | (exfalso; omega)
theorem s_run80 {ro : List (List Int32)} {n d : Nat} {p : xH} {Q : Option Value → xH → Prop} {x : Int32} {xi : Int} {v : Int32} {vi : Int} (hro : jro ro) (hx : x.toInt = xi) (hv : v.toInt = vi) (pre0 : 0 ≤ vi) (pre1 : vi ≤ 38) (pre2 : hKi p) (k0 : ∀ z : Int32, ∀ p2 : xH, (z = aW (gO p) 4 (gA p) x + aQ (gO p) (gO p) (gA p) 2) → (p2 = hBg p ((nW (gO p) 4 ++ nQ (gO p) (gO p)))) → Q (some (.int z)) p2) : hP ro n d (9, 7, 1, 1, k116) 0 (lv_args 0 [.ref 57, .int 80, .int x, .int v]) [] p Q := by
  subst hx
  subst hv
  refine hp_id (ls := [(0, .ref 57), (1, .int 80), (2, .int x), (3, .int v)]) ?_
  refine hp_s (pc' := 1) (st' := [.int 80]) rfl rfl rfl ?_
  refine hp_go (pc' := 246) rfl rfl rfl ?_
  refine hp_s (pc' := 247) (st' := [.ref 57]) rfl rfl rfl ?_
  refine hp_s (pc' := 248) (st' := [.int 4, .ref 57]) rfl rfl rfl ?_
  refine hp_s (pc' := 249) (st' := [.int 1, .int 4, .ref 57]) rfl rfl rfl ?_
  refine hp_s (pc' := 250) (st' := [.int x, .int 1, .int 4, .ref 57]) rfl rfl rfl ?_
  refine hp_s (pc' := 251) (st' := [.int v, .int x, .int 1, .int 4, .ref 57]) rfl rfl rfl ?_
  refine hp_cv (r := 57) (o := 9) (kd := 1) (as := [.int 4, .int 1, .int x, .int v]) (rest := []) (pc' := 254) rfl rfl rfl rfl rfl rfl rfl rfl rfl (fun d1 => ?_)
  refine s_from4_1 hro (xi := x.toInt) rfl (vi := v.toInt) rfl (by first | with_reducible assumption | omega | (rw [eB]; exact hKi_1 pre2) | (subst_vars; with_reducible (repeat (first | assumption | apply hKi_g)))) (by first | with_reducible assumption | omega | (rw [eB]; exact hKi_1 pre2) | (subst_vars; with_reducible (repeat (first | assumption | apply hKi_g)))) (by first | with_reducible assumption | omega | (rw [eB]; exact hKi_1 pre2) | (subst_vars; with_reducible (repeat (first | assumption | apply hKi_g)))) ?_
  intro y1 p1 h1 h2
  refine hp_id (st := [.int y1]) ?_
  refine hp_s (pc' := 256) (ls' := [(6, .int y1), (0, .ref 57), (1, .int 80), (2, .int x), (3, .int v)]) (st' := []) rfl rfl rfl ?_
  refine hp_s (pc' := 258) (st' := [.int y1]) rfl rfl rfl ?_
  refine hp_s (pc' := 259) (st' := [.ref 57, .int y1]) rfl rfl rfl ?_
  refine hp_s (pc' := 260) (st' := [.int 2, .ref 57, .int y1]) rfl rfl rfl ?_
  refine hp_s (pc' := 261) (st' := [.int 2, .int 2, .ref 57, .int y1]) rfl rfl rfl ?_
  refine hp_s (pc' := 262) (st' := [.int v, .int 2, .int 2, .ref 57, .int y1]) rfl rfl rfl ?_
  refine hp_cv (r := 57) (o := 9) (kd := 1) (as := [.int 2, .int 2, .int v]) (rest := [.int y1]) (pc' := 265) rfl rfl rfl rfl rfl rfl rfl rfl rfl (fun d2 => ?_)
  refine s_own2 hro (xi := 2) (by decide) (vi := v.toInt) rfl (by first | with_reducible assumption | omega | (rw [eB]; exact hKi_1 pre2) | (subst_vars; with_reducible (repeat (first | assumption | apply hKi_g)))) (by first | with_reducible assumption | omega | (rw [eB]; exact hKi_1 pre2) | (subst_vars; with_reducible (repeat (first | assumption | apply hKi_g)))) (by first | with_reducible assumption | omega | (rw [eB]; exact hKi_1 pre2) | (subst_vars; with_reducible (repeat (first | assumption | apply hKi_g)))) ?_
  intro y2 p2 h3 h4
  refine hp_id (st := [.int y2, .int y1]) ?_
  refine hp_z (pc' := 266) (e := y1 + y2) (st' := []) rfl rfl rfl ?_
  intro z1 hz1
  have ez1 := i_add hz1 (show y1.toInt = y1.toInt from rfl) (show y2.toInt = y2.toInt from rfl)
  refine hp_ri rfl rfl ?_
  first | (exact k0 _ _ (by first | assumption | (subst_vars; first | rfl | (simp only [gO_g, gA_g, hBg_app]; done) | (simp only [gO_g, gA_g, hBg_app]; rfl))) (by first | assumption | (subst_vars; first | rfl | (simp only [gO_g, gA_g, hBg_app]; done) | (simp only [gO_g, gA_g, hBg_app]; rfl)))) | (exfalso; omega)
theorem s_from7_1 {ro : List (List Int32)} {n d : Nat} {p : xH} {Q : Option Value → xH → Prop} {x : Int32} {xi : Int} {v : Int32} {vi : Int} (hro : jro ro) (hx : x.toInt = xi) (hv : v.toInt = vi) (pre0 : 0 ≤ vi) (pre1 : vi ≤ 37) (pre2 : hKi p) (k0 : ∀ z : Int32, ∀ p2 : xH, (z = aW (gO p) 7 (gA p) x) → (p2 = hBg p (nW (gO p) 7)) → Q (some (.int z)) p2) : hP ro n d (9, 7, 1, 1, k115) 0 (lv_args 0 [.ref 57, .int 7, .int 1, .int x, .int v]) [] p Q := by
  subst hx
  subst hv
  refine hp_id (ls := [(0, .ref 57), (1, .int 7), (2, .int 1), (3, .int x), (4, .int v)]) ?_
  refine hp_s (pc' := 2) (st' := [.int v]) rfl rfl rfl ?_
  refine hp_s (pc' := 4) (st' := [.int 40, .int v]) rfl rfl rfl ?_
  refine hp_ic (pc' := 7) (t := 9) (a := v.toInt) (b := 40) rfl rfl rfl rfl (by decide) (fun (h1 : v.toInt ≤ 40) => ?_) (fun (h2 : ¬ (v.toInt ≤ 40)) => ?_)
  ·
    refine hp_s (pc' := 10) (st' := [.int 7]) rfl rfl rfl ?_
    refine hp_s (pc' := 12) (ls' := [(5, .int 7), (0, .ref 57), (1, .int 7), (2, .int 1), (3, .int x), (4, .int v)]) (st' := []) rfl rfl rfl ?_
    refine hp_s (pc' := 13) (st' := [.int 0]) rfl rfl rfl ?_
    refine hp_s (pc' := 15) (ls' := [(6, .int 0), (5, .int 7), (0, .ref 57), (1, .int 7), (2, .int 1), (3, .int x), (4, .int v)]) (st' := []) rfl rfl rfl ?_
    refine hp_s (pc' := 17) (st' := [.int 0]) rfl rfl rfl ?_
    refine hp_s (pc' := 19) (st' := [.int 8, .int 0]) rfl rfl rfl ?_
    refine hp_go (pc' := 22) rfl rfl rfl ?_
    refine hp_sta (k := 2) (pc' := 25) rfl rfl rfl ?_
    refine hp_s (pc' := 27) (st' := [.int 7, .retAddr 2]) rfl rfl rfl ?_
    refine hp_s (pc' := 28) (st' := [.int 4, .int 7, .retAddr 2]) rfl rfl rfl ?_
    refine hp_s (pc' := 29) (st' := [.int 28, .retAddr 2]) rfl rfl rfl ?_
    refine hp_s (pc' := 30) (st' := [.int 1, .int 28, .retAddr 2]) rfl rfl rfl ?_
    refine hp_s (pc' := 31) (st' := [.int 29, .retAddr 2]) rfl rfl rfl ?_
    refine hp_lds (v := 80) hro.2 rfl rfl (by decide +kernel) ?_
    intro g1a g1b
    refine hp_go (pc' := 49) rfl rfl rfl ?_
    refine hp_sta (k := 2) (pc' := 52) rfl rfl rfl ?_
    refine hp_s (pc' := 54) (st' := [.int 7, .retAddr 2]) rfl rfl rfl ?_
    refine hp_s (pc' := 55) (st' := [.int 4, .int 7, .retAddr 2]) rfl rfl rfl ?_
    refine hp_s (pc' := 56) (st' := [.int 28, .retAddr 2]) rfl rfl rfl ?_
    refine hp_s (pc' := 57) (st' := [.int 1, .int 28, .retAddr 2]) rfl rfl rfl ?_
    refine hp_s (pc' := 58) (st' := [.int 29, .retAddr 2]) rfl rfl rfl ?_
    refine hp_lds (v := 80) hro.2 rfl rfl (by decide +kernel) ?_
    intro g2a g2b
    refine hp_s (pc' := 61) (ls' := [(6, .int 80), (5, .int 7), (0, .ref 57), (1, .int 7), (2, .int 1), (3, .int x), (4, .int v)]) (st' := []) rfl rfl rfl ?_
    refine hp_s (pc' := 62) (st' := [.ref 57]) rfl rfl rfl ?_
    refine hp_get (k := 3) (pc' := 65) (v := (rI p 57 3)) rfl rfl rfl rfl rfl rfl ?_
    refine hp_s (pc' := 67) (st' := [.int 24, .int (rI p 57 3)]) rfl rfl rfl ?_
    refine hp_ic (pc' := 70) (t := 81) (a := (rI p 57 3).toInt) (b := 24) rfl rfl rfl rfl (by decide) (fun (h3 : 24 ≤ (rI p 57 3).toInt) => ?_) (fun (h4 : ¬ (24 ≤ (rI p 57 3).toInt)) => ?_)
    ·
      refine hp_s (pc' := 82) (st' := [.ref 57]) rfl rfl rfl ?_
      refine hp_s (pc' := 83) (st' := [.ref 57, .ref 57]) rfl rfl rfl ?_
      refine hp_get (k := 3) (pc' := 86) (v := (rI p 57 3)) rfl rfl rfl rfl rfl rfl ?_
      refine hp_s (pc' := 87) (st' := [.int 1, .int (rI p 57 3), .ref 57]) rfl rfl rfl ?_
      refine hp_z (pc' := 88) (e := (rI p 57 3) + 1) (st' := [.ref 57]) rfl rfl rfl ?_
      intro z5 hz5
      have ez5 := i_add hz5 (show (rI p 57 3).toInt = (rI p 57 3).toInt from rfl) (show (1 : Int32).toInt = 1 from by decide)
      refine hp_put (k := 3) (pc' := 91) rfl rfl rfl rfl rfl ?_
      intro p1 wp1 ep1
      have eB : p1 = hB1 p 80 := (by subst_vars; unfold hB1; first | rw [if_pos (by omega)] | rw [if_neg (by omega)])
      refine hp_s (pc' := 92) (st' := [.ref 57]) rfl rfl rfl ?_
      refine hp_s (pc' := 94) (st' := [.int 80, .ref 57]) rfl rfl rfl ?_
      refine hp_s (pc' := 95) (st' := [.int x, .int 80, .ref 57]) rfl rfl rfl ?_
      refine hp_s (pc' := 97) (st' := [.int v, .int x, .int 80, .ref 57]) rfl rfl rfl ?_
      refine hp_s (pc' := 98) (st' := [.int 1, .int v, .int x, .int 80, .ref 57]) rfl rfl rfl ?_
      refine hp_z (pc' := 99) (e := v + 1) (st' := [.int x, .int 80, .ref 57]) rfl rfl rfl ?_
      intro z6 hz6
      have ez6 := i_add hz6 (show v.toInt = v.toInt from rfl) (show (1 : Int32).toInt = 1 from by decide)
      refine hp_cv (r := 57) (o := 9) (kd := 1) (as := [.int 80, .int x, .int z6]) (rest := []) (pc' := 102) rfl rfl rfl rfl rfl rfl rfl rfl rfl (fun d1 => ?_)
      refine s_run80 hro (xi := x.toInt) rfl (vi := z6.toInt) rfl (by first | with_reducible assumption | omega | (rw [eB]; exact hKi_1 pre2) | (subst_vars; with_reducible (repeat (first | assumption | apply hKi_g)))) (by first | with_reducible assumption | omega | (rw [eB]; exact hKi_1 pre2) | (subst_vars; with_reducible (repeat (first | assumption | apply hKi_g)))) (by first | with_reducible assumption | omega | (rw [eB]; exact hKi_1 pre2) | (subst_vars; with_reducible (repeat (first | assumption | apply hKi_g)))) ?_
      intro y1 p2 h5 h6
      have qz := h5
      have qp := h6
      refine hp_id (st := [.int y1]) ?_
      refine hp_ri rfl rfl ?_
      first | (exact k0 _ _ (by first | (rw [qz, eB]; first | (rw [gO_1, gA_1]; rfl) | (rw [gA_1]; rfl) | rfl) | (rw [qp, eB]; first | (rw [gO_1]; rfl) | rfl)) (by first | (rw [qz, eB]; first | (rw [gO_1, gA_1]; rfl) | (rw [gA_1]; rfl) | rfl) | (rw [qp, eB]; first | (rw [gO_1]; rfl) | rfl))) | (exfalso; omega)
    ·
      refine hp_s (pc' := 71) (st' := [.ref 57]) rfl rfl rfl ?_
      refine hp_getr (k := 2) (w := .ref 59) (pc' := 74) rfl rfl rfl rfl rfl ?_
      refine hp_s (pc' := 75) (st' := [.ref 57, .ref 59]) rfl rfl rfl ?_
      refine hp_get (k := 3) (pc' := 78) (v := (rI p 57 3)) rfl rfl rfl rfl rfl rfl ?_
      refine hp_s (pc' := 80) (st' := [.int 80, .int (rI p 57 3), .ref 59]) rfl rfl rfl ?_
      refine hp_st (t := 100) rfl (.inl rfl) rfl rfl ?_
      intro p3 wp3 (p3a : 0 ≤ (rI p 57 3).toInt) (p3b : (rI p 57 3).toInt < 24) ep3
      refine hp_s (pc' := 82) (st' := [.ref 57]) rfl rfl rfl ?_
      refine hp_s (pc' := 83) (st' := [.ref 57, .ref 57]) rfl rfl rfl ?_
      refine hp_get (k := 3) (pc' := 86) (v := (rI p 57 3)) rfl rfl rfl rfl rfl (by rw [ep3, rI_o (by decide)]) ?_
      refine hp_s (pc' := 87) (st' := [.int 1, .int (rI p 57 3), .ref 57]) rfl rfl rfl ?_
      refine hp_z (pc' := 88) (e := (rI p 57 3) + 1) (st' := [.ref 57]) rfl rfl rfl ?_
      intro z7 hz7
      have ez7 := i_add hz7 (show (rI p 57 3).toInt = (rI p 57 3).toInt from rfl) (show (1 : Int32).toInt = 1 from by decide)
      refine hp_put (k := 3) (pc' := 91) rfl rfl rfl rfl rfl ?_
      intro p4 wp4 ep4
      have eB : p4 = hB1 p 80 := (by subst_vars; unfold hB1; first | rw [if_pos (by omega)] | rw [if_neg (by omega)])
      refine hp_s (pc' := 92) (st' := [.ref 57]) rfl rfl rfl ?_
      refine hp_s (pc' := 94) (st' := [.int 80, .ref 57]) rfl rfl rfl ?_
      refine hp_s (pc' := 95) (st' := [.int x, .int 80, .ref 57]) rfl rfl rfl ?_
      refine hp_s (pc' := 97) (st' := [.int v, .int x, .int 80, .ref 57]) rfl rfl rfl ?_
      refine hp_s (pc' := 98) (st' := [.int 1, .int v, .int x, .int 80, .ref 57]) rfl rfl rfl ?_
      refine hp_z (pc' := 99) (e := v + 1) (st' := [.int x, .int 80, .ref 57]) rfl rfl rfl ?_
      intro z8 hz8
      have ez8 := i_add hz8 (show v.toInt = v.toInt from rfl) (show (1 : Int32).toInt = 1 from by decide)
      refine hp_cv (r := 57) (o := 9) (kd := 1) (as := [.int 80, .int x, .int z8]) (rest := []) (pc' := 102) rfl rfl rfl rfl rfl rfl rfl rfl rfl (fun d2 => ?_)
      refine s_run80 hro (xi := x.toInt) rfl (vi := z8.toInt) rfl (by first | with_reducible assumption | omega | (rw [eB]; exact hKi_1 pre2) | (subst_vars; with_reducible (repeat (first | assumption | apply hKi_g)))) (by first | with_reducible assumption | omega | (rw [eB]; exact hKi_1 pre2) | (subst_vars; with_reducible (repeat (first | assumption | apply hKi_g)))) (by first | with_reducible assumption | omega | (rw [eB]; exact hKi_1 pre2) | (subst_vars; with_reducible (repeat (first | assumption | apply hKi_g)))) ?_
      intro y2 p5 h7 h8
      have qz := h7
      have qp := h8
      refine hp_id (st := [.int y2]) ?_
      refine hp_ri rfl rfl ?_
      first | (exact k0 _ _ (by first | (rw [qz, eB]; first | (rw [gO_1, gA_1]; rfl) | (rw [gA_1]; rfl) | rfl) | (rw [qp, eB]; first | (rw [gO_1]; rfl) | rfl)) (by first | (rw [qz, eB]; first | (rw [gO_1, gA_1]; rfl) | (rw [gA_1]; rfl) | rfl) | (rw [qp, eB]; first | (rw [gO_1]; rfl) | rfl))) | (exfalso; omega)
  ·
    refine hp_s (pc' := 8) (st' := [.int 0]) rfl rfl rfl ?_
    refine hp_ri rfl rfl ?_
    first | (exact k0 _ _ (by first | (rw [qz, eB]; first | (rw [gO_1, gA_1]; rfl) | (rw [gA_1]; rfl) | rfl) | (rw [qp, eB]; first | (rw [gO_1]; rfl) | rfl)) (by first | (rw [qz, eB]; first | (rw [gO_1, gA_1]; rfl) | (rw [gA_1]; rfl) | rfl) | (rw [qp, eB]; first | (rw [gO_1]; rfl) | rfl))) | (exfalso; omega)
theorem s_fromA_1 {ro : List (List Int32)} {n d : Nat} {p : xH} {Q : Option Value → xH → Prop} {kd : Int32} {kdi : Int} {x : Int32} {xi : Int} {v : Int32} {vi : Int} (hro : jro ro) (hk : kd.toInt = kdi) (hx : x.toInt = xi) (hv : v.toInt = vi) (pre0 : 0 ≤ kdi) (pre1 : kdi < 8) (pre2 : 0 ≤ vi) (pre3 : vi ≤ 36) (pre4 : hKi p) (k0 : ∀ z : Int32, ∀ p2 : xH, (z = aW (gO p) kdi (gA p) x) → (p2 = hBg p (nW (gO p) kdi)) → Q (some (.int z)) p2) : hP ro n d (9, 7, 1, 1, k115) 0 (lv_args 0 [.ref 57, .int kd, .int 1, .int x, .int v]) [] p Q := by
  have h8 : kdi = 0 ∨ kdi = 1 ∨ kdi = 2 ∨ kdi = 3 ∨ kdi = 4 ∨ kdi = 5 ∨ kdi = 6 ∨ kdi = 7 := by omega
  rcases h8 with e | e | e | e | e | e | e | e
  · have e2 : kd = 0 := Int32.toInt_inj.mp (by rw [hk, e]; decide)
    subst e2; subst e; exact s_from0_1 hro hx hv pre2 (by omega) pre4 k0
  · have e2 : kd = 1 := Int32.toInt_inj.mp (by rw [hk, e]; decide)
    subst e2; subst e; exact s_from1_1 hro hx hv pre2 (by omega) pre4 k0
  · have e2 : kd = 2 := Int32.toInt_inj.mp (by rw [hk, e]; decide)
    subst e2; subst e; exact s_from2_1 hro hx hv pre2 (by omega) pre4 k0
  · have e2 : kd = 3 := Int32.toInt_inj.mp (by rw [hk, e]; decide)
    subst e2; subst e; exact s_from3_1 hro hx hv pre2 (by omega) pre4 k0
  · have e2 : kd = 4 := Int32.toInt_inj.mp (by rw [hk, e]; decide)
    subst e2; subst e; exact s_from4_1 hro hx hv pre2 (by omega) pre4 k0
  · have e2 : kd = 5 := Int32.toInt_inj.mp (by rw [hk, e]; decide)
    subst e2; subst e; exact s_from5_1 hro hx hv pre2 (by omega) pre4 k0
  · have e2 : kd = 6 := Int32.toInt_inj.mp (by rw [hk, e]; decide)
    subst e2; subst e; exact s_from6_1 hro hx hv pre2 (by omega) pre4 k0
  · have e2 : kd = 7 := Int32.toInt_inj.mp (by rw [hk, e]; decide)
    subst e2; subst e; exact s_from7_1 hro hx hv pre2 (by omega) pre4 k0
theorem s_own1 {ro : List (List Int32)} {n d : Nat} {p : xH} {Q : Option Value → xH → Prop} {x : Int32} {xi : Int} {v : Int32} {vi : Int} (hro : jro ro) (hx : x.toInt = xi) (hv : v.toInt = vi) (pre0 : 0 ≤ vi) (pre1 : vi ≤ 36) (pre2 : hKi p) (k0 : ∀ z : Int32, ∀ p2 : xH, (z = aW (gO p) (gO p) (gA p) x) → (p2 = hBg p (nW (gO p) (gO p))) → Q (some (.int z)) p2) : hP ro n d (9, 4, 1, 1, k114) 0 (lv_args 0 [.ref 57, .int 1, .int x, .int v]) [] p Q := by
  subst hx
  subst hv
  refine hp_id (ls := [(0, .ref 57), (1, .int 1), (2, .int x), (3, .int v)]) ?_
  refine hp_s (pc' := 1) (st' := [.ref 57]) rfl rfl rfl ?_
  refine hp_s (pc' := 2) (st' := [.ref 57, .ref 57]) rfl rfl rfl ?_
  refine hp_getr (k := 0) (w := .ref 58) (pc' := 5) rfl rfl rfl rfl rfl ?_
  refine hp_s (pc' := 6) (st' := [.ref 57, .ref 58, .ref 57]) rfl rfl rfl ?_
  refine hp_get (k := 4) (pc' := 9) (v := (rI p 57 4)) rfl rfl rfl rfl rfl rfl ?_
  refine hp_ld (t := 100) (v := (rI p 58 (rI p 57 4).toInt.toNat)) rfl (.inl rfl) rfl rfl rfl ?_
  intro (g1a : 0 ≤ (rI p 57 4).toInt) (g1b : (rI p 57 4).toInt < 50)
  refine hp_s (pc' := 11) (st' := [.int 1, .int ((rI p 58 (rI p 57 4).toInt.toNat)), .ref 57]) rfl rfl rfl ?_
  refine hp_s (pc' := 12) (st' := [.int x, .int 1, .int ((rI p 58 (rI p 57 4).toInt.toNat)), .ref 57]) rfl rfl rfl ?_
  refine hp_s (pc' := 13) (st' := [.int v, .int x, .int 1, .int ((rI p 58 (rI p 57 4).toInt.toNat)), .ref 57]) rfl rfl rfl ?_
  refine hp_cv (r := 57) (o := 9) (kd := 1) (as := [.int ((rI p 58 (rI p 57 4).toInt.toNat)), .int 1, .int x, .int v]) (rest := []) (pc' := 16) rfl rfl rfl rfl rfl rfl rfl rfl rfl (fun d1 => ?_)
  refine s_fromA_1 hro (kdi := ((rI p 58 (rI p 57 4).toInt.toNat)).toInt) rfl (xi := x.toInt) rfl (vi := v.toInt) rfl (by first | with_reducible assumption | omega | exact (pre2 _).1 | exact (pre2 _).2) (by first | with_reducible assumption | omega | exact (pre2 _).1 | exact (pre2 _).2) (by first | with_reducible assumption | omega | exact (pre2 _).1 | exact (pre2 _).2) (by first | with_reducible assumption | omega | exact (pre2 _).1 | exact (pre2 _).2) (by first | with_reducible assumption | omega | exact (pre2 _).1 | exact (pre2 _).2) ?_
  intro y1 p1 h1 h2
  refine hp_id (st := [.int y1]) ?_
  refine hp_ri rfl rfl ?_
  first | (exact k0 _ _ (by assumption) (by assumption)) | (exfalso; omega)
theorem s_run2 {ro : List (List Int32)} {n d : Nat} {p : xH} {Q : Option Value → xH → Prop} {x : Int32} {xi : Int} {v : Int32} {vi : Int} (hro : jro ro) (hx : x.toInt = xi) (hv : v.toInt = vi) (pre0 : 0 ≤ vi) (pre1 : vi ≤ 36) (pre2 : hKi p) (k0 : ∀ z : Int32, ∀ p2 : xH, (z = aW (gO p) (gO p) (gA p) x - aQ (gO p) (gO p) (gA p) 1) → (p2 = hBg p ((nW (gO p) (gO p) ++ nQ (gO p) (gO p)))) → Q (some (.int z)) p2) : hP ro n d (9, 7, 1, 1, k116) 0 (lv_args 0 [.ref 57, .int 2, .int x, .int v]) [] p Q := by
  subst hx
  subst hv
  refine hp_id (ls := [(0, .ref 57), (1, .int 2), (2, .int x), (3, .int v)]) ?_
  refine hp_s (pc' := 1) (st' := [.int 2]) rfl rfl rfl ?_
  refine hp_go (pc' := 123) rfl rfl rfl ?_
  refine hp_s (pc' := 124) (st' := [.ref 57]) rfl rfl rfl ?_
  refine hp_s (pc' := 125) (st' := [.int 1, .ref 57]) rfl rfl rfl ?_
  refine hp_s (pc' := 126) (st' := [.int x, .int 1, .ref 57]) rfl rfl rfl ?_
  refine hp_s (pc' := 127) (st' := [.int v, .int x, .int 1, .ref 57]) rfl rfl rfl ?_
  refine hp_cv (r := 57) (o := 9) (kd := 1) (as := [.int 1, .int x, .int v]) (rest := []) (pc' := 130) rfl rfl rfl rfl rfl rfl rfl rfl rfl (fun d1 => ?_)
  refine s_own1 hro (xi := x.toInt) rfl (vi := v.toInt) rfl (by first | with_reducible assumption | omega | (rw [eB]; exact hKi_1 pre2) | (subst_vars; with_reducible (repeat (first | assumption | apply hKi_g)))) (by first | with_reducible assumption | omega | (rw [eB]; exact hKi_1 pre2) | (subst_vars; with_reducible (repeat (first | assumption | apply hKi_g)))) (by first | with_reducible assumption | omega | (rw [eB]; exact hKi_1 pre2) | (subst_vars; with_reducible (repeat (first | assumption | apply hKi_g)))) ?_
  intro y1 p1 h1 h2
  refine hp_id (st := [.int y1]) ?_
  refine hp_s (pc' := 132) (ls' := [(4, .int y1), (0, .ref 57), (1, .int 2), (2, .int x), (3, .int v)]) (st' := []) rfl rfl rfl ?_
  refine hp_s (pc' := 134) (st' := [.int y1]) rfl rfl rfl ?_
  refine hp_s (pc' := 135) (st' := [.ref 57, .int y1]) rfl rfl rfl ?_
  refine hp_s (pc' := 136) (st' := [.int 2, .ref 57, .int y1]) rfl rfl rfl ?_
  refine hp_s (pc' := 137) (st' := [.int 1, .int 2, .ref 57, .int y1]) rfl rfl rfl ?_
  refine hp_s (pc' := 138) (st' := [.int v, .int 1, .int 2, .ref 57, .int y1]) rfl rfl rfl ?_
  refine hp_cv (r := 57) (o := 9) (kd := 1) (as := [.int 2, .int 1, .int v]) (rest := [.int y1]) (pc' := 141) rfl rfl rfl rfl rfl rfl rfl rfl rfl (fun d2 => ?_)
  refine s_own2 hro (xi := 1) (by decide) (vi := v.toInt) rfl (by first | with_reducible assumption | omega | (rw [eB]; exact hKi_1 pre2) | (subst_vars; with_reducible (repeat (first | assumption | apply hKi_g)))) (by first | with_reducible assumption | omega | (rw [eB]; exact hKi_1 pre2) | (subst_vars; with_reducible (repeat (first | assumption | apply hKi_g)))) (by first | with_reducible assumption | omega | (rw [eB]; exact hKi_1 pre2) | (subst_vars; with_reducible (repeat (first | assumption | apply hKi_g)))) ?_
  intro y2 p2 h3 h4
  refine hp_id (st := [.int y2, .int y1]) ?_
  refine hp_z (pc' := 142) (e := y1 - y2) (st' := []) rfl rfl rfl ?_
  intro z1 hz1
  have ez1 := i_sub hz1 (show y1.toInt = y1.toInt from rfl) (show y2.toInt = y2.toInt from rfl)
  refine hp_ri rfl rfl ?_
  first | (exact k0 _ _ (by first | assumption | (subst_vars; first | rfl | (simp only [gO_g, gA_g, hBg_app]; done) | (simp only [gO_g, gA_g, hBg_app]; rfl))) (by first | assumption | (subst_vars; first | rfl | (simp only [gO_g, gA_g, hBg_app]; done) | (simp only [gO_g, gA_g, hBg_app]; rfl)))) | (exfalso; omega)
theorem s_from0_3 {ro : List (List Int32)} {n d : Nat} {p : xH} {Q : Option Value → xH → Prop} {x : Int32} {xi : Int} {v : Int32} {vi : Int} (hro : jro ro) (hx : x.toInt = xi) (hv : v.toInt = vi) (pre0 : 0 ≤ vi) (pre1 : vi ≤ 35) (pre2 : hKi p) (k0 : ∀ z : Int32, ∀ p2 : xH, (z = aT (gO p) 0 (gA p) x) → (p2 = hBg p (nT (gO p) 0)) → Q (some (.int z)) p2) : hP ro n d (9, 7, 1, 1, k115) 0 (lv_args 0 [.ref 57, .int 0, .int 3, .int x, .int v]) [] p Q := by
  subst hx
  subst hv
  refine hp_id (ls := [(0, .ref 57), (1, .int 0), (2, .int 3), (3, .int x), (4, .int v)]) ?_
  refine hp_s (pc' := 2) (st' := [.int v]) rfl rfl rfl ?_
  refine hp_s (pc' := 4) (st' := [.int 40, .int v]) rfl rfl rfl ?_
  refine hp_ic (pc' := 7) (t := 9) (a := v.toInt) (b := 40) rfl rfl rfl rfl (by decide) (fun (h1 : v.toInt ≤ 40) => ?_) (fun (h2 : ¬ (v.toInt ≤ 40)) => ?_)
  ·
    refine hp_s (pc' := 10) (st' := [.int 0]) rfl rfl rfl ?_
    refine hp_s (pc' := 12) (ls' := [(5, .int 0), (0, .ref 57), (1, .int 0), (2, .int 3), (3, .int x), (4, .int v)]) (st' := []) rfl rfl rfl ?_
    refine hp_s (pc' := 13) (st' := [.int 0]) rfl rfl rfl ?_
    refine hp_s (pc' := 15) (ls' := [(6, .int 0), (5, .int 0), (0, .ref 57), (1, .int 0), (2, .int 3), (3, .int x), (4, .int v)]) (st' := []) rfl rfl rfl ?_
    refine hp_s (pc' := 17) (st' := [.int 0]) rfl rfl rfl ?_
    refine hp_s (pc' := 19) (st' := [.int 8, .int 0]) rfl rfl rfl ?_
    refine hp_go (pc' := 22) rfl rfl rfl ?_
    refine hp_sta (k := 2) (pc' := 25) rfl rfl rfl ?_
    refine hp_s (pc' := 27) (st' := [.int 0, .retAddr 2]) rfl rfl rfl ?_
    refine hp_s (pc' := 28) (st' := [.int 4, .int 0, .retAddr 2]) rfl rfl rfl ?_
    refine hp_s (pc' := 29) (st' := [.int 0, .retAddr 2]) rfl rfl rfl ?_
    refine hp_s (pc' := 30) (st' := [.int 3, .int 0, .retAddr 2]) rfl rfl rfl ?_
    refine hp_s (pc' := 31) (st' := [.int 3, .retAddr 2]) rfl rfl rfl ?_
    refine hp_lds (v := 2) hro.2 rfl rfl (by decide +kernel) ?_
    intro g1a g1b
    refine hp_go (pc' := 49) rfl rfl rfl ?_
    refine hp_sta (k := 2) (pc' := 52) rfl rfl rfl ?_
    refine hp_s (pc' := 54) (st' := [.int 0, .retAddr 2]) rfl rfl rfl ?_
    refine hp_s (pc' := 55) (st' := [.int 4, .int 0, .retAddr 2]) rfl rfl rfl ?_
    refine hp_s (pc' := 56) (st' := [.int 0, .retAddr 2]) rfl rfl rfl ?_
    refine hp_s (pc' := 57) (st' := [.int 3, .int 0, .retAddr 2]) rfl rfl rfl ?_
    refine hp_s (pc' := 58) (st' := [.int 3, .retAddr 2]) rfl rfl rfl ?_
    refine hp_lds (v := 2) hro.2 rfl rfl (by decide +kernel) ?_
    intro g2a g2b
    refine hp_s (pc' := 61) (ls' := [(6, .int 2), (5, .int 0), (0, .ref 57), (1, .int 0), (2, .int 3), (3, .int x), (4, .int v)]) (st' := []) rfl rfl rfl ?_
    refine hp_s (pc' := 62) (st' := [.ref 57]) rfl rfl rfl ?_
    refine hp_get (k := 3) (pc' := 65) (v := (rI p 57 3)) rfl rfl rfl rfl rfl rfl ?_
    refine hp_s (pc' := 67) (st' := [.int 24, .int (rI p 57 3)]) rfl rfl rfl ?_
    refine hp_ic (pc' := 70) (t := 81) (a := (rI p 57 3).toInt) (b := 24) rfl rfl rfl rfl (by decide) (fun (h3 : 24 ≤ (rI p 57 3).toInt) => ?_) (fun (h4 : ¬ (24 ≤ (rI p 57 3).toInt)) => ?_)
    ·
      refine hp_s (pc' := 82) (st' := [.ref 57]) rfl rfl rfl ?_
      refine hp_s (pc' := 83) (st' := [.ref 57, .ref 57]) rfl rfl rfl ?_
      refine hp_get (k := 3) (pc' := 86) (v := (rI p 57 3)) rfl rfl rfl rfl rfl rfl ?_
      refine hp_s (pc' := 87) (st' := [.int 1, .int (rI p 57 3), .ref 57]) rfl rfl rfl ?_
      refine hp_z (pc' := 88) (e := (rI p 57 3) + 1) (st' := [.ref 57]) rfl rfl rfl ?_
      intro z5 hz5
      have ez5 := i_add hz5 (show (rI p 57 3).toInt = (rI p 57 3).toInt from rfl) (show (1 : Int32).toInt = 1 from by decide)
      refine hp_put (k := 3) (pc' := 91) rfl rfl rfl rfl rfl ?_
      intro p1 wp1 ep1
      have eB : p1 = hB1 p 2 := (by subst_vars; unfold hB1; first | rw [if_pos (by omega)] | rw [if_neg (by omega)])
      refine hp_s (pc' := 92) (st' := [.ref 57]) rfl rfl rfl ?_
      refine hp_s (pc' := 94) (st' := [.int 2, .ref 57]) rfl rfl rfl ?_
      refine hp_s (pc' := 95) (st' := [.int x, .int 2, .ref 57]) rfl rfl rfl ?_
      refine hp_s (pc' := 97) (st' := [.int v, .int x, .int 2, .ref 57]) rfl rfl rfl ?_
      refine hp_s (pc' := 98) (st' := [.int 1, .int v, .int x, .int 2, .ref 57]) rfl rfl rfl ?_
      refine hp_z (pc' := 99) (e := v + 1) (st' := [.int x, .int 2, .ref 57]) rfl rfl rfl ?_
      intro z6 hz6
      have ez6 := i_add hz6 (show v.toInt = v.toInt from rfl) (show (1 : Int32).toInt = 1 from by decide)
      refine hp_cv (r := 57) (o := 9) (kd := 1) (as := [.int 2, .int x, .int z6]) (rest := []) (pc' := 102) rfl rfl rfl rfl rfl rfl rfl rfl rfl (fun d1 => ?_)
      refine s_run2 hro (xi := x.toInt) rfl (vi := z6.toInt) rfl (by first | with_reducible assumption | omega | (rw [eB]; exact hKi_1 pre2) | (subst_vars; with_reducible (repeat (first | assumption | apply hKi_g)))) (by first | with_reducible assumption | omega | (rw [eB]; exact hKi_1 pre2) | (subst_vars; with_reducible (repeat (first | assumption | apply hKi_g)))) (by first | with_reducible assumption | omega | (rw [eB]; exact hKi_1 pre2) | (subst_vars; with_reducible (repeat (first | assumption | apply hKi_g)))) ?_
      intro y1 p2 h5 h6
      have qz := h5
      have qp := h6
      refine hp_id (st := [.int y1]) ?_
      refine hp_ri rfl rfl ?_
      first | (exact k0 _ _ (by first | (rw [qz, eB]; first | (rw [gO_1, gA_1]; rfl) | (rw [gA_1]; rfl) | rfl) | (rw [qp, eB]; first | (rw [gO_1]; rfl) | rfl)) (by first | (rw [qz, eB]; first | (rw [gO_1, gA_1]; rfl) | (rw [gA_1]; rfl) | rfl) | (rw [qp, eB]; first | (rw [gO_1]; rfl) | rfl))) | (exfalso; omega)
    ·
      refine hp_s (pc' := 71) (st' := [.ref 57]) rfl rfl rfl ?_
      refine hp_getr (k := 2) (w := .ref 59) (pc' := 74) rfl rfl rfl rfl rfl ?_
      refine hp_s (pc' := 75) (st' := [.ref 57, .ref 59]) rfl rfl rfl ?_
      refine hp_get (k := 3) (pc' := 78) (v := (rI p 57 3)) rfl rfl rfl rfl rfl rfl ?_
      refine hp_s (pc' := 80) (st' := [.int 2, .int (rI p 57 3), .ref 59]) rfl rfl rfl ?_
      refine hp_st (t := 100) rfl (.inl rfl) rfl rfl ?_
      intro p3 wp3 (p3a : 0 ≤ (rI p 57 3).toInt) (p3b : (rI p 57 3).toInt < 24) ep3
      refine hp_s (pc' := 82) (st' := [.ref 57]) rfl rfl rfl ?_
      refine hp_s (pc' := 83) (st' := [.ref 57, .ref 57]) rfl rfl rfl ?_
      refine hp_get (k := 3) (pc' := 86) (v := (rI p 57 3)) rfl rfl rfl rfl rfl (by rw [ep3, rI_o (by decide)]) ?_
      refine hp_s (pc' := 87) (st' := [.int 1, .int (rI p 57 3), .ref 57]) rfl rfl rfl ?_
      refine hp_z (pc' := 88) (e := (rI p 57 3) + 1) (st' := [.ref 57]) rfl rfl rfl ?_
      intro z7 hz7
      have ez7 := i_add hz7 (show (rI p 57 3).toInt = (rI p 57 3).toInt from rfl) (show (1 : Int32).toInt = 1 from by decide)
      refine hp_put (k := 3) (pc' := 91) rfl rfl rfl rfl rfl ?_
      intro p4 wp4 ep4
      have eB : p4 = hB1 p 2 := (by subst_vars; unfold hB1; first | rw [if_pos (by omega)] | rw [if_neg (by omega)])
      refine hp_s (pc' := 92) (st' := [.ref 57]) rfl rfl rfl ?_
      refine hp_s (pc' := 94) (st' := [.int 2, .ref 57]) rfl rfl rfl ?_
      refine hp_s (pc' := 95) (st' := [.int x, .int 2, .ref 57]) rfl rfl rfl ?_
      refine hp_s (pc' := 97) (st' := [.int v, .int x, .int 2, .ref 57]) rfl rfl rfl ?_
      refine hp_s (pc' := 98) (st' := [.int 1, .int v, .int x, .int 2, .ref 57]) rfl rfl rfl ?_
      refine hp_z (pc' := 99) (e := v + 1) (st' := [.int x, .int 2, .ref 57]) rfl rfl rfl ?_
      intro z8 hz8
      have ez8 := i_add hz8 (show v.toInt = v.toInt from rfl) (show (1 : Int32).toInt = 1 from by decide)
      refine hp_cv (r := 57) (o := 9) (kd := 1) (as := [.int 2, .int x, .int z8]) (rest := []) (pc' := 102) rfl rfl rfl rfl rfl rfl rfl rfl rfl (fun d2 => ?_)
      refine s_run2 hro (xi := x.toInt) rfl (vi := z8.toInt) rfl (by first | with_reducible assumption | omega | (rw [eB]; exact hKi_1 pre2) | (subst_vars; with_reducible (repeat (first | assumption | apply hKi_g)))) (by first | with_reducible assumption | omega | (rw [eB]; exact hKi_1 pre2) | (subst_vars; with_reducible (repeat (first | assumption | apply hKi_g)))) (by first | with_reducible assumption | omega | (rw [eB]; exact hKi_1 pre2) | (subst_vars; with_reducible (repeat (first | assumption | apply hKi_g)))) ?_
      intro y2 p5 h7 h8
      have qz := h7
      have qp := h8
      refine hp_id (st := [.int y2]) ?_
      refine hp_ri rfl rfl ?_
      first | (exact k0 _ _ (by first | (rw [qz, eB]; first | (rw [gO_1, gA_1]; rfl) | (rw [gA_1]; rfl) | rfl) | (rw [qp, eB]; first | (rw [gO_1]; rfl) | rfl)) (by first | (rw [qz, eB]; first | (rw [gO_1, gA_1]; rfl) | (rw [gA_1]; rfl) | rfl) | (rw [qp, eB]; first | (rw [gO_1]; rfl) | rfl))) | (exfalso; omega)
  ·
    refine hp_s (pc' := 8) (st' := [.int 0]) rfl rfl rfl ?_
    refine hp_ri rfl rfl ?_
    first | (exact k0 _ _ (by first | (rw [qz, eB]; first | (rw [gO_1, gA_1]; rfl) | (rw [gA_1]; rfl) | rfl) | (rw [qp, eB]; first | (rw [gO_1]; rfl) | rfl)) (by first | (rw [qz, eB]; first | (rw [gO_1, gA_1]; rfl) | (rw [gA_1]; rfl) | rfl) | (rw [qp, eB]; first | (rw [gO_1]; rfl) | rfl))) | (exfalso; omega)
theorem s_from1_3 {ro : List (List Int32)} {n d : Nat} {p : xH} {Q : Option Value → xH → Prop} {x : Int32} {xi : Int} {v : Int32} {vi : Int} (hro : jro ro) (hx : x.toInt = xi) (hv : v.toInt = vi) (pre0 : 0 ≤ vi) (pre1 : vi ≤ 35) (pre2 : hKi p) (k0 : ∀ z : Int32, ∀ p2 : xH, (z = aT (gO p) 1 (gA p) x) → (p2 = hBg p (nT (gO p) 1)) → Q (some (.int z)) p2) : hP ro n d (9, 7, 1, 1, k115) 0 (lv_args 0 [.ref 57, .int 1, .int 3, .int x, .int v]) [] p Q := by
  subst hx
  subst hv
  refine hp_id (ls := [(0, .ref 57), (1, .int 1), (2, .int 3), (3, .int x), (4, .int v)]) ?_
  refine hp_s (pc' := 2) (st' := [.int v]) rfl rfl rfl ?_
  refine hp_s (pc' := 4) (st' := [.int 40, .int v]) rfl rfl rfl ?_
  refine hp_ic (pc' := 7) (t := 9) (a := v.toInt) (b := 40) rfl rfl rfl rfl (by decide) (fun (h1 : v.toInt ≤ 40) => ?_) (fun (h2 : ¬ (v.toInt ≤ 40)) => ?_)
  ·
    refine hp_s (pc' := 10) (st' := [.int 1]) rfl rfl rfl ?_
    refine hp_s (pc' := 12) (ls' := [(5, .int 1), (0, .ref 57), (1, .int 1), (2, .int 3), (3, .int x), (4, .int v)]) (st' := []) rfl rfl rfl ?_
    refine hp_s (pc' := 13) (st' := [.int 0]) rfl rfl rfl ?_
    refine hp_s (pc' := 15) (ls' := [(6, .int 0), (5, .int 1), (0, .ref 57), (1, .int 1), (2, .int 3), (3, .int x), (4, .int v)]) (st' := []) rfl rfl rfl ?_
    refine hp_s (pc' := 17) (st' := [.int 0]) rfl rfl rfl ?_
    refine hp_s (pc' := 19) (st' := [.int 8, .int 0]) rfl rfl rfl ?_
    refine hp_go (pc' := 22) rfl rfl rfl ?_
    refine hp_sta (k := 2) (pc' := 25) rfl rfl rfl ?_
    refine hp_s (pc' := 27) (st' := [.int 1, .retAddr 2]) rfl rfl rfl ?_
    refine hp_s (pc' := 28) (st' := [.int 4, .int 1, .retAddr 2]) rfl rfl rfl ?_
    refine hp_s (pc' := 29) (st' := [.int 4, .retAddr 2]) rfl rfl rfl ?_
    refine hp_s (pc' := 30) (st' := [.int 3, .int 4, .retAddr 2]) rfl rfl rfl ?_
    refine hp_s (pc' := 31) (st' := [.int 7, .retAddr 2]) rfl rfl rfl ?_
    refine hp_lds (v := 0) hro.2 rfl rfl (by decide +kernel) ?_
    intro g1a g1b
    refine hp_go (pc' := 35) rfl rfl rfl ?_
    refine hp_sta (k := 1) (pc' := 38) rfl rfl rfl ?_
    refine hp_s (pc' := 40) (st' := [.int 1, .retAddr 1]) rfl rfl rfl ?_
    refine hp_lds (v := 0) hro.1 rfl rfl (by decide +kernel) ?_
    intro g2a g2b
    refine hp_s (pc' := 43) (ls' := [(5, .int 0), (6, .int 0), (0, .ref 57), (1, .int 1), (2, .int 3), (3, .int x), (4, .int v)]) (st' := []) rfl rfl rfl ?_
    refine hp_s (pc' := 46) (ls' := [(6, .int 1), (5, .int 0), (0, .ref 57), (1, .int 1), (2, .int 3), (3, .int x), (4, .int v)]) (st' := []) rfl rfl rfl ?_
    refine hp_go (pc' := 15) rfl rfl rfl ?_
    refine hp_s (pc' := 17) (st' := [.int 1]) rfl rfl rfl ?_
    refine hp_s (pc' := 19) (st' := [.int 8, .int 1]) rfl rfl rfl ?_
    refine hp_go (pc' := 22) rfl rfl rfl ?_
    refine hp_sta (k := 2) (pc' := 25) rfl rfl rfl ?_
    refine hp_s (pc' := 27) (st' := [.int 0, .retAddr 2]) rfl rfl rfl ?_
    refine hp_s (pc' := 28) (st' := [.int 4, .int 0, .retAddr 2]) rfl rfl rfl ?_
    refine hp_s (pc' := 29) (st' := [.int 0, .retAddr 2]) rfl rfl rfl ?_
    refine hp_s (pc' := 30) (st' := [.int 3, .int 0, .retAddr 2]) rfl rfl rfl ?_
    refine hp_s (pc' := 31) (st' := [.int 3, .retAddr 2]) rfl rfl rfl ?_
    refine hp_lds (v := 2) hro.2 rfl rfl (by decide +kernel) ?_
    intro g3a g3b
    refine hp_go (pc' := 49) rfl rfl rfl ?_
    refine hp_sta (k := 2) (pc' := 52) rfl rfl rfl ?_
    refine hp_s (pc' := 54) (st' := [.int 0, .retAddr 2]) rfl rfl rfl ?_
    refine hp_s (pc' := 55) (st' := [.int 4, .int 0, .retAddr 2]) rfl rfl rfl ?_
    refine hp_s (pc' := 56) (st' := [.int 0, .retAddr 2]) rfl rfl rfl ?_
    refine hp_s (pc' := 57) (st' := [.int 3, .int 0, .retAddr 2]) rfl rfl rfl ?_
    refine hp_s (pc' := 58) (st' := [.int 3, .retAddr 2]) rfl rfl rfl ?_
    refine hp_lds (v := 2) hro.2 rfl rfl (by decide +kernel) ?_
    intro g4a g4b
    refine hp_s (pc' := 61) (ls' := [(6, .int 2), (5, .int 0), (0, .ref 57), (1, .int 1), (2, .int 3), (3, .int x), (4, .int v)]) (st' := []) rfl rfl rfl ?_
    refine hp_s (pc' := 62) (st' := [.ref 57]) rfl rfl rfl ?_
    refine hp_get (k := 3) (pc' := 65) (v := (rI p 57 3)) rfl rfl rfl rfl rfl rfl ?_
    refine hp_s (pc' := 67) (st' := [.int 24, .int (rI p 57 3)]) rfl rfl rfl ?_
    refine hp_ic (pc' := 70) (t := 81) (a := (rI p 57 3).toInt) (b := 24) rfl rfl rfl rfl (by decide) (fun (h3 : 24 ≤ (rI p 57 3).toInt) => ?_) (fun (h4 : ¬ (24 ≤ (rI p 57 3).toInt)) => ?_)
    ·
      refine hp_s (pc' := 82) (st' := [.ref 57]) rfl rfl rfl ?_
      refine hp_s (pc' := 83) (st' := [.ref 57, .ref 57]) rfl rfl rfl ?_
      refine hp_get (k := 3) (pc' := 86) (v := (rI p 57 3)) rfl rfl rfl rfl rfl rfl ?_
      refine hp_s (pc' := 87) (st' := [.int 1, .int (rI p 57 3), .ref 57]) rfl rfl rfl ?_
      refine hp_z (pc' := 88) (e := (rI p 57 3) + 1) (st' := [.ref 57]) rfl rfl rfl ?_
      intro z8 hz8
      have ez8 := i_add hz8 (show (rI p 57 3).toInt = (rI p 57 3).toInt from rfl) (show (1 : Int32).toInt = 1 from by decide)
      refine hp_put (k := 3) (pc' := 91) rfl rfl rfl rfl rfl ?_
      intro p1 wp1 ep1
      have eB : p1 = hB1 p 2 := (by subst_vars; unfold hB1; first | rw [if_pos (by omega)] | rw [if_neg (by omega)])
      refine hp_s (pc' := 92) (st' := [.ref 57]) rfl rfl rfl ?_
      refine hp_s (pc' := 94) (st' := [.int 2, .ref 57]) rfl rfl rfl ?_
      refine hp_s (pc' := 95) (st' := [.int x, .int 2, .ref 57]) rfl rfl rfl ?_
      refine hp_s (pc' := 97) (st' := [.int v, .int x, .int 2, .ref 57]) rfl rfl rfl ?_
      refine hp_s (pc' := 98) (st' := [.int 1, .int v, .int x, .int 2, .ref 57]) rfl rfl rfl ?_
      refine hp_z (pc' := 99) (e := v + 1) (st' := [.int x, .int 2, .ref 57]) rfl rfl rfl ?_
      intro z9 hz9
      have ez9 := i_add hz9 (show v.toInt = v.toInt from rfl) (show (1 : Int32).toInt = 1 from by decide)
      refine hp_cv (r := 57) (o := 9) (kd := 1) (as := [.int 2, .int x, .int z9]) (rest := []) (pc' := 102) rfl rfl rfl rfl rfl rfl rfl rfl rfl (fun d1 => ?_)
      refine s_run2 hro (xi := x.toInt) rfl (vi := z9.toInt) rfl (by first | with_reducible assumption | omega | (rw [eB]; exact hKi_1 pre2) | (subst_vars; with_reducible (repeat (first | assumption | apply hKi_g)))) (by first | with_reducible assumption | omega | (rw [eB]; exact hKi_1 pre2) | (subst_vars; with_reducible (repeat (first | assumption | apply hKi_g)))) (by first | with_reducible assumption | omega | (rw [eB]; exact hKi_1 pre2) | (subst_vars; with_reducible (repeat (first | assumption | apply hKi_g)))) ?_
      intro y1 p2 h5 h6
      have qz := h5
      have qp := h6
      refine hp_id (st := [.int y1]) ?_
      refine hp_ri rfl rfl ?_
      first | (exact k0 _ _ (by first | (rw [qz, eB]; first | (rw [gO_1, gA_1]; rfl) | (rw [gA_1]; rfl) | rfl) | (rw [qp, eB]; first | (rw [gO_1]; rfl) | rfl)) (by first | (rw [qz, eB]; first | (rw [gO_1, gA_1]; rfl) | (rw [gA_1]; rfl) | rfl) | (rw [qp, eB]; first | (rw [gO_1]; rfl) | rfl))) | (exfalso; omega)
    ·
      refine hp_s (pc' := 71) (st' := [.ref 57]) rfl rfl rfl ?_
      refine hp_getr (k := 2) (w := .ref 59) (pc' := 74) rfl rfl rfl rfl rfl ?_
      refine hp_s (pc' := 75) (st' := [.ref 57, .ref 59]) rfl rfl rfl ?_
      refine hp_get (k := 3) (pc' := 78) (v := (rI p 57 3)) rfl rfl rfl rfl rfl rfl ?_
      refine hp_s (pc' := 80) (st' := [.int 2, .int (rI p 57 3), .ref 59]) rfl rfl rfl ?_
      refine hp_st (t := 100) rfl (.inl rfl) rfl rfl ?_
      intro p3 wp3 (p3a : 0 ≤ (rI p 57 3).toInt) (p3b : (rI p 57 3).toInt < 24) ep3
      refine hp_s (pc' := 82) (st' := [.ref 57]) rfl rfl rfl ?_
      refine hp_s (pc' := 83) (st' := [.ref 57, .ref 57]) rfl rfl rfl ?_
      refine hp_get (k := 3) (pc' := 86) (v := (rI p 57 3)) rfl rfl rfl rfl rfl (by rw [ep3, rI_o (by decide)]) ?_
      refine hp_s (pc' := 87) (st' := [.int 1, .int (rI p 57 3), .ref 57]) rfl rfl rfl ?_
      refine hp_z (pc' := 88) (e := (rI p 57 3) + 1) (st' := [.ref 57]) rfl rfl rfl ?_
      intro z10 hz10
      have ez10 := i_add hz10 (show (rI p 57 3).toInt = (rI p 57 3).toInt from rfl) (show (1 : Int32).toInt = 1 from by decide)
      refine hp_put (k := 3) (pc' := 91) rfl rfl rfl rfl rfl ?_
      intro p4 wp4 ep4
      have eB : p4 = hB1 p 2 := (by subst_vars; unfold hB1; first | rw [if_pos (by omega)] | rw [if_neg (by omega)])
      refine hp_s (pc' := 92) (st' := [.ref 57]) rfl rfl rfl ?_
      refine hp_s (pc' := 94) (st' := [.int 2, .ref 57]) rfl rfl rfl ?_
      refine hp_s (pc' := 95) (st' := [.int x, .int 2, .ref 57]) rfl rfl rfl ?_
      refine hp_s (pc' := 97) (st' := [.int v, .int x, .int 2, .ref 57]) rfl rfl rfl ?_
      refine hp_s (pc' := 98) (st' := [.int 1, .int v, .int x, .int 2, .ref 57]) rfl rfl rfl ?_
      refine hp_z (pc' := 99) (e := v + 1) (st' := [.int x, .int 2, .ref 57]) rfl rfl rfl ?_
      intro z11 hz11
      have ez11 := i_add hz11 (show v.toInt = v.toInt from rfl) (show (1 : Int32).toInt = 1 from by decide)
      refine hp_cv (r := 57) (o := 9) (kd := 1) (as := [.int 2, .int x, .int z11]) (rest := []) (pc' := 102) rfl rfl rfl rfl rfl rfl rfl rfl rfl (fun d2 => ?_)
      refine s_run2 hro (xi := x.toInt) rfl (vi := z11.toInt) rfl (by first | with_reducible assumption | omega | (rw [eB]; exact hKi_1 pre2) | (subst_vars; with_reducible (repeat (first | assumption | apply hKi_g)))) (by first | with_reducible assumption | omega | (rw [eB]; exact hKi_1 pre2) | (subst_vars; with_reducible (repeat (first | assumption | apply hKi_g)))) (by first | with_reducible assumption | omega | (rw [eB]; exact hKi_1 pre2) | (subst_vars; with_reducible (repeat (first | assumption | apply hKi_g)))) ?_
      intro y2 p5 h7 h8
      have qz := h7
      have qp := h8
      refine hp_id (st := [.int y2]) ?_
      refine hp_ri rfl rfl ?_
      first | (exact k0 _ _ (by first | (rw [qz, eB]; first | (rw [gO_1, gA_1]; rfl) | (rw [gA_1]; rfl) | rfl) | (rw [qp, eB]; first | (rw [gO_1]; rfl) | rfl)) (by first | (rw [qz, eB]; first | (rw [gO_1, gA_1]; rfl) | (rw [gA_1]; rfl) | rfl) | (rw [qp, eB]; first | (rw [gO_1]; rfl) | rfl))) | (exfalso; omega)
  ·
    refine hp_s (pc' := 8) (st' := [.int 0]) rfl rfl rfl ?_
    refine hp_ri rfl rfl ?_
    first | (exact k0 _ _ (by first | (rw [qz, eB]; first | (rw [gO_1, gA_1]; rfl) | (rw [gA_1]; rfl) | rfl) | (rw [qp, eB]; first | (rw [gO_1]; rfl) | rfl)) (by first | (rw [qz, eB]; first | (rw [gO_1, gA_1]; rfl) | (rw [gA_1]; rfl) | rfl) | (rw [qp, eB]; first | (rw [gO_1]; rfl) | rfl))) | (exfalso; omega)
theorem s_from2_3 {ro : List (List Int32)} {n d : Nat} {p : xH} {Q : Option Value → xH → Prop} {x : Int32} {xi : Int} {v : Int32} {vi : Int} (hro : jro ro) (hx : x.toInt = xi) (hv : v.toInt = vi) (pre0 : 0 ≤ vi) (pre1 : vi ≤ 35) (pre2 : hKi p) (k0 : ∀ z : Int32, ∀ p2 : xH, (z = aT (gO p) 2 (gA p) x) → (p2 = hBg p (nT (gO p) 2)) → Q (some (.int z)) p2) : hP ro n d (9, 7, 1, 1, k115) 0 (lv_args 0 [.ref 57, .int 2, .int 3, .int x, .int v]) [] p Q := by
  subst hx
  subst hv
  refine hp_id (ls := [(0, .ref 57), (1, .int 2), (2, .int 3), (3, .int x), (4, .int v)]) ?_
  refine hp_s (pc' := 2) (st' := [.int v]) rfl rfl rfl ?_
  refine hp_s (pc' := 4) (st' := [.int 40, .int v]) rfl rfl rfl ?_
  refine hp_ic (pc' := 7) (t := 9) (a := v.toInt) (b := 40) rfl rfl rfl rfl (by decide) (fun (h1 : v.toInt ≤ 40) => ?_) (fun (h2 : ¬ (v.toInt ≤ 40)) => ?_)
  ·
    refine hp_s (pc' := 10) (st' := [.int 2]) rfl rfl rfl ?_
    refine hp_s (pc' := 12) (ls' := [(5, .int 2), (0, .ref 57), (1, .int 2), (2, .int 3), (3, .int x), (4, .int v)]) (st' := []) rfl rfl rfl ?_
    refine hp_s (pc' := 13) (st' := [.int 0]) rfl rfl rfl ?_
    refine hp_s (pc' := 15) (ls' := [(6, .int 0), (5, .int 2), (0, .ref 57), (1, .int 2), (2, .int 3), (3, .int x), (4, .int v)]) (st' := []) rfl rfl rfl ?_
    refine hp_s (pc' := 17) (st' := [.int 0]) rfl rfl rfl ?_
    refine hp_s (pc' := 19) (st' := [.int 8, .int 0]) rfl rfl rfl ?_
    refine hp_go (pc' := 22) rfl rfl rfl ?_
    refine hp_sta (k := 2) (pc' := 25) rfl rfl rfl ?_
    refine hp_s (pc' := 27) (st' := [.int 2, .retAddr 2]) rfl rfl rfl ?_
    refine hp_s (pc' := 28) (st' := [.int 4, .int 2, .retAddr 2]) rfl rfl rfl ?_
    refine hp_s (pc' := 29) (st' := [.int 8, .retAddr 2]) rfl rfl rfl ?_
    refine hp_s (pc' := 30) (st' := [.int 3, .int 8, .retAddr 2]) rfl rfl rfl ?_
    refine hp_s (pc' := 31) (st' := [.int 11, .retAddr 2]) rfl rfl rfl ?_
    refine hp_lds (v := 0) hro.2 rfl rfl (by decide +kernel) ?_
    intro g1a g1b
    refine hp_go (pc' := 35) rfl rfl rfl ?_
    refine hp_sta (k := 1) (pc' := 38) rfl rfl rfl ?_
    refine hp_s (pc' := 40) (st' := [.int 2, .retAddr 1]) rfl rfl rfl ?_
    refine hp_lds (v := 0) hro.1 rfl rfl (by decide +kernel) ?_
    intro g2a g2b
    refine hp_s (pc' := 43) (ls' := [(5, .int 0), (6, .int 0), (0, .ref 57), (1, .int 2), (2, .int 3), (3, .int x), (4, .int v)]) (st' := []) rfl rfl rfl ?_
    refine hp_s (pc' := 46) (ls' := [(6, .int 1), (5, .int 0), (0, .ref 57), (1, .int 2), (2, .int 3), (3, .int x), (4, .int v)]) (st' := []) rfl rfl rfl ?_
    refine hp_go (pc' := 15) rfl rfl rfl ?_
    refine hp_s (pc' := 17) (st' := [.int 1]) rfl rfl rfl ?_
    refine hp_s (pc' := 19) (st' := [.int 8, .int 1]) rfl rfl rfl ?_
    refine hp_go (pc' := 22) rfl rfl rfl ?_
    refine hp_sta (k := 2) (pc' := 25) rfl rfl rfl ?_
    refine hp_s (pc' := 27) (st' := [.int 0, .retAddr 2]) rfl rfl rfl ?_
    refine hp_s (pc' := 28) (st' := [.int 4, .int 0, .retAddr 2]) rfl rfl rfl ?_
    refine hp_s (pc' := 29) (st' := [.int 0, .retAddr 2]) rfl rfl rfl ?_
    refine hp_s (pc' := 30) (st' := [.int 3, .int 0, .retAddr 2]) rfl rfl rfl ?_
    refine hp_s (pc' := 31) (st' := [.int 3, .retAddr 2]) rfl rfl rfl ?_
    refine hp_lds (v := 2) hro.2 rfl rfl (by decide +kernel) ?_
    intro g3a g3b
    refine hp_go (pc' := 49) rfl rfl rfl ?_
    refine hp_sta (k := 2) (pc' := 52) rfl rfl rfl ?_
    refine hp_s (pc' := 54) (st' := [.int 0, .retAddr 2]) rfl rfl rfl ?_
    refine hp_s (pc' := 55) (st' := [.int 4, .int 0, .retAddr 2]) rfl rfl rfl ?_
    refine hp_s (pc' := 56) (st' := [.int 0, .retAddr 2]) rfl rfl rfl ?_
    refine hp_s (pc' := 57) (st' := [.int 3, .int 0, .retAddr 2]) rfl rfl rfl ?_
    refine hp_s (pc' := 58) (st' := [.int 3, .retAddr 2]) rfl rfl rfl ?_
    refine hp_lds (v := 2) hro.2 rfl rfl (by decide +kernel) ?_
    intro g4a g4b
    refine hp_s (pc' := 61) (ls' := [(6, .int 2), (5, .int 0), (0, .ref 57), (1, .int 2), (2, .int 3), (3, .int x), (4, .int v)]) (st' := []) rfl rfl rfl ?_
    refine hp_s (pc' := 62) (st' := [.ref 57]) rfl rfl rfl ?_
    refine hp_get (k := 3) (pc' := 65) (v := (rI p 57 3)) rfl rfl rfl rfl rfl rfl ?_
    refine hp_s (pc' := 67) (st' := [.int 24, .int (rI p 57 3)]) rfl rfl rfl ?_
    refine hp_ic (pc' := 70) (t := 81) (a := (rI p 57 3).toInt) (b := 24) rfl rfl rfl rfl (by decide) (fun (h3 : 24 ≤ (rI p 57 3).toInt) => ?_) (fun (h4 : ¬ (24 ≤ (rI p 57 3).toInt)) => ?_)
    ·
      refine hp_s (pc' := 82) (st' := [.ref 57]) rfl rfl rfl ?_
      refine hp_s (pc' := 83) (st' := [.ref 57, .ref 57]) rfl rfl rfl ?_
      refine hp_get (k := 3) (pc' := 86) (v := (rI p 57 3)) rfl rfl rfl rfl rfl rfl ?_
      refine hp_s (pc' := 87) (st' := [.int 1, .int (rI p 57 3), .ref 57]) rfl rfl rfl ?_
      refine hp_z (pc' := 88) (e := (rI p 57 3) + 1) (st' := [.ref 57]) rfl rfl rfl ?_
      intro z8 hz8
      have ez8 := i_add hz8 (show (rI p 57 3).toInt = (rI p 57 3).toInt from rfl) (show (1 : Int32).toInt = 1 from by decide)
      refine hp_put (k := 3) (pc' := 91) rfl rfl rfl rfl rfl ?_
      intro p1 wp1 ep1
      have eB : p1 = hB1 p 2 := (by subst_vars; unfold hB1; first | rw [if_pos (by omega)] | rw [if_neg (by omega)])
      refine hp_s (pc' := 92) (st' := [.ref 57]) rfl rfl rfl ?_
      refine hp_s (pc' := 94) (st' := [.int 2, .ref 57]) rfl rfl rfl ?_
      refine hp_s (pc' := 95) (st' := [.int x, .int 2, .ref 57]) rfl rfl rfl ?_
      refine hp_s (pc' := 97) (st' := [.int v, .int x, .int 2, .ref 57]) rfl rfl rfl ?_
      refine hp_s (pc' := 98) (st' := [.int 1, .int v, .int x, .int 2, .ref 57]) rfl rfl rfl ?_
      refine hp_z (pc' := 99) (e := v + 1) (st' := [.int x, .int 2, .ref 57]) rfl rfl rfl ?_
      intro z9 hz9
      have ez9 := i_add hz9 (show v.toInt = v.toInt from rfl) (show (1 : Int32).toInt = 1 from by decide)
      refine hp_cv (r := 57) (o := 9) (kd := 1) (as := [.int 2, .int x, .int z9]) (rest := []) (pc' := 102) rfl rfl rfl rfl rfl rfl rfl rfl rfl (fun d1 => ?_)
      refine s_run2 hro (xi := x.toInt) rfl (vi := z9.toInt) rfl (by first | with_reducible assumption | omega | (rw [eB]; exact hKi_1 pre2) | (subst_vars; with_reducible (repeat (first | assumption | apply hKi_g)))) (by first | with_reducible assumption | omega | (rw [eB]; exact hKi_1 pre2) | (subst_vars; with_reducible (repeat (first | assumption | apply hKi_g)))) (by first | with_reducible assumption | omega | (rw [eB]; exact hKi_1 pre2) | (subst_vars; with_reducible (repeat (first | assumption | apply hKi_g)))) ?_
      intro y1 p2 h5 h6
      have qz := h5
      have qp := h6
      refine hp_id (st := [.int y1]) ?_
      refine hp_ri rfl rfl ?_
      first | (exact k0 _ _ (by first | (rw [qz, eB]; first | (rw [gO_1, gA_1]; rfl) | (rw [gA_1]; rfl) | rfl) | (rw [qp, eB]; first | (rw [gO_1]; rfl) | rfl)) (by first | (rw [qz, eB]; first | (rw [gO_1, gA_1]; rfl) | (rw [gA_1]; rfl) | rfl) | (rw [qp, eB]; first | (rw [gO_1]; rfl) | rfl))) | (exfalso; omega)
    ·
      refine hp_s (pc' := 71) (st' := [.ref 57]) rfl rfl rfl ?_
      refine hp_getr (k := 2) (w := .ref 59) (pc' := 74) rfl rfl rfl rfl rfl ?_
      refine hp_s (pc' := 75) (st' := [.ref 57, .ref 59]) rfl rfl rfl ?_
      refine hp_get (k := 3) (pc' := 78) (v := (rI p 57 3)) rfl rfl rfl rfl rfl rfl ?_
      refine hp_s (pc' := 80) (st' := [.int 2, .int (rI p 57 3), .ref 59]) rfl rfl rfl ?_
      refine hp_st (t := 100) rfl (.inl rfl) rfl rfl ?_
      intro p3 wp3 (p3a : 0 ≤ (rI p 57 3).toInt) (p3b : (rI p 57 3).toInt < 24) ep3
      refine hp_s (pc' := 82) (st' := [.ref 57]) rfl rfl rfl ?_
      refine hp_s (pc' := 83) (st' := [.ref 57, .ref 57]) rfl rfl rfl ?_
      refine hp_get (k := 3) (pc' := 86) (v := (rI p 57 3)) rfl rfl rfl rfl rfl (by rw [ep3, rI_o (by decide)]) ?_
      refine hp_s (pc' := 87) (st' := [.int 1, .int (rI p 57 3), .ref 57]) rfl rfl rfl ?_
      refine hp_z (pc' := 88) (e := (rI p 57 3) + 1) (st' := [.ref 57]) rfl rfl rfl ?_
      intro z10 hz10
      have ez10 := i_add hz10 (show (rI p 57 3).toInt = (rI p 57 3).toInt from rfl) (show (1 : Int32).toInt = 1 from by decide)
      refine hp_put (k := 3) (pc' := 91) rfl rfl rfl rfl rfl ?_
      intro p4 wp4 ep4
      have eB : p4 = hB1 p 2 := (by subst_vars; unfold hB1; first | rw [if_pos (by omega)] | rw [if_neg (by omega)])
      refine hp_s (pc' := 92) (st' := [.ref 57]) rfl rfl rfl ?_
      refine hp_s (pc' := 94) (st' := [.int 2, .ref 57]) rfl rfl rfl ?_
      refine hp_s (pc' := 95) (st' := [.int x, .int 2, .ref 57]) rfl rfl rfl ?_
      refine hp_s (pc' := 97) (st' := [.int v, .int x, .int 2, .ref 57]) rfl rfl rfl ?_
      refine hp_s (pc' := 98) (st' := [.int 1, .int v, .int x, .int 2, .ref 57]) rfl rfl rfl ?_
      refine hp_z (pc' := 99) (e := v + 1) (st' := [.int x, .int 2, .ref 57]) rfl rfl rfl ?_
      intro z11 hz11
      have ez11 := i_add hz11 (show v.toInt = v.toInt from rfl) (show (1 : Int32).toInt = 1 from by decide)
      refine hp_cv (r := 57) (o := 9) (kd := 1) (as := [.int 2, .int x, .int z11]) (rest := []) (pc' := 102) rfl rfl rfl rfl rfl rfl rfl rfl rfl (fun d2 => ?_)
      refine s_run2 hro (xi := x.toInt) rfl (vi := z11.toInt) rfl (by first | with_reducible assumption | omega | (rw [eB]; exact hKi_1 pre2) | (subst_vars; with_reducible (repeat (first | assumption | apply hKi_g)))) (by first | with_reducible assumption | omega | (rw [eB]; exact hKi_1 pre2) | (subst_vars; with_reducible (repeat (first | assumption | apply hKi_g)))) (by first | with_reducible assumption | omega | (rw [eB]; exact hKi_1 pre2) | (subst_vars; with_reducible (repeat (first | assumption | apply hKi_g)))) ?_
      intro y2 p5 h7 h8
      have qz := h7
      have qp := h8
      refine hp_id (st := [.int y2]) ?_
      refine hp_ri rfl rfl ?_
      first | (exact k0 _ _ (by first | (rw [qz, eB]; first | (rw [gO_1, gA_1]; rfl) | (rw [gA_1]; rfl) | rfl) | (rw [qp, eB]; first | (rw [gO_1]; rfl) | rfl)) (by first | (rw [qz, eB]; first | (rw [gO_1, gA_1]; rfl) | (rw [gA_1]; rfl) | rfl) | (rw [qp, eB]; first | (rw [gO_1]; rfl) | rfl))) | (exfalso; omega)
  ·
    refine hp_s (pc' := 8) (st' := [.int 0]) rfl rfl rfl ?_
    refine hp_ri rfl rfl ?_
    first | (exact k0 _ _ (by first | (rw [qz, eB]; first | (rw [gO_1, gA_1]; rfl) | (rw [gA_1]; rfl) | rfl) | (rw [qp, eB]; first | (rw [gO_1]; rfl) | rfl)) (by first | (rw [qz, eB]; first | (rw [gO_1, gA_1]; rfl) | (rw [gA_1]; rfl) | rfl) | (rw [qp, eB]; first | (rw [gO_1]; rfl) | rfl))) | (exfalso; omega)
theorem s_from3_3 {ro : List (List Int32)} {n d : Nat} {p : xH} {Q : Option Value → xH → Prop} {x : Int32} {xi : Int} {v : Int32} {vi : Int} (hro : jro ro) (hx : x.toInt = xi) (hv : v.toInt = vi) (pre0 : 0 ≤ vi) (pre1 : vi ≤ 35) (pre2 : hKi p) (k0 : ∀ z : Int32, ∀ p2 : xH, (z = aT (gO p) 3 (gA p) x) → (p2 = hBg p (nT (gO p) 3)) → Q (some (.int z)) p2) : hP ro n d (9, 7, 1, 1, k115) 0 (lv_args 0 [.ref 57, .int 3, .int 3, .int x, .int v]) [] p Q := by
  subst hx
  subst hv
  refine hp_id (ls := [(0, .ref 57), (1, .int 3), (2, .int 3), (3, .int x), (4, .int v)]) ?_
  refine hp_s (pc' := 2) (st' := [.int v]) rfl rfl rfl ?_
  refine hp_s (pc' := 4) (st' := [.int 40, .int v]) rfl rfl rfl ?_
  refine hp_ic (pc' := 7) (t := 9) (a := v.toInt) (b := 40) rfl rfl rfl rfl (by decide) (fun (h1 : v.toInt ≤ 40) => ?_) (fun (h2 : ¬ (v.toInt ≤ 40)) => ?_)
  ·
    refine hp_s (pc' := 10) (st' := [.int 3]) rfl rfl rfl ?_
    refine hp_s (pc' := 12) (ls' := [(5, .int 3), (0, .ref 57), (1, .int 3), (2, .int 3), (3, .int x), (4, .int v)]) (st' := []) rfl rfl rfl ?_
    refine hp_s (pc' := 13) (st' := [.int 0]) rfl rfl rfl ?_
    refine hp_s (pc' := 15) (ls' := [(6, .int 0), (5, .int 3), (0, .ref 57), (1, .int 3), (2, .int 3), (3, .int x), (4, .int v)]) (st' := []) rfl rfl rfl ?_
    refine hp_s (pc' := 17) (st' := [.int 0]) rfl rfl rfl ?_
    refine hp_s (pc' := 19) (st' := [.int 8, .int 0]) rfl rfl rfl ?_
    refine hp_go (pc' := 22) rfl rfl rfl ?_
    refine hp_sta (k := 2) (pc' := 25) rfl rfl rfl ?_
    refine hp_s (pc' := 27) (st' := [.int 3, .retAddr 2]) rfl rfl rfl ?_
    refine hp_s (pc' := 28) (st' := [.int 4, .int 3, .retAddr 2]) rfl rfl rfl ?_
    refine hp_s (pc' := 29) (st' := [.int 12, .retAddr 2]) rfl rfl rfl ?_
    refine hp_s (pc' := 30) (st' := [.int 3, .int 12, .retAddr 2]) rfl rfl rfl ?_
    refine hp_s (pc' := 31) (st' := [.int 15, .retAddr 2]) rfl rfl rfl ?_
    refine hp_lds (v := 0) hro.2 rfl rfl (by decide +kernel) ?_
    intro g1a g1b
    refine hp_go (pc' := 35) rfl rfl rfl ?_
    refine hp_sta (k := 1) (pc' := 38) rfl rfl rfl ?_
    refine hp_s (pc' := 40) (st' := [.int 3, .retAddr 1]) rfl rfl rfl ?_
    refine hp_lds (v := 2) hro.1 rfl rfl (by decide +kernel) ?_
    intro g2a g2b
    refine hp_s (pc' := 43) (ls' := [(5, .int 2), (6, .int 0), (0, .ref 57), (1, .int 3), (2, .int 3), (3, .int x), (4, .int v)]) (st' := []) rfl rfl rfl ?_
    refine hp_s (pc' := 46) (ls' := [(6, .int 1), (5, .int 2), (0, .ref 57), (1, .int 3), (2, .int 3), (3, .int x), (4, .int v)]) (st' := []) rfl rfl rfl ?_
    refine hp_go (pc' := 15) rfl rfl rfl ?_
    refine hp_s (pc' := 17) (st' := [.int 1]) rfl rfl rfl ?_
    refine hp_s (pc' := 19) (st' := [.int 8, .int 1]) rfl rfl rfl ?_
    refine hp_go (pc' := 22) rfl rfl rfl ?_
    refine hp_sta (k := 2) (pc' := 25) rfl rfl rfl ?_
    refine hp_s (pc' := 27) (st' := [.int 2, .retAddr 2]) rfl rfl rfl ?_
    refine hp_s (pc' := 28) (st' := [.int 4, .int 2, .retAddr 2]) rfl rfl rfl ?_
    refine hp_s (pc' := 29) (st' := [.int 8, .retAddr 2]) rfl rfl rfl ?_
    refine hp_s (pc' := 30) (st' := [.int 3, .int 8, .retAddr 2]) rfl rfl rfl ?_
    refine hp_s (pc' := 31) (st' := [.int 11, .retAddr 2]) rfl rfl rfl ?_
    refine hp_lds (v := 0) hro.2 rfl rfl (by decide +kernel) ?_
    intro g3a g3b
    refine hp_go (pc' := 35) rfl rfl rfl ?_
    refine hp_sta (k := 1) (pc' := 38) rfl rfl rfl ?_
    refine hp_s (pc' := 40) (st' := [.int 2, .retAddr 1]) rfl rfl rfl ?_
    refine hp_lds (v := 0) hro.1 rfl rfl (by decide +kernel) ?_
    intro g4a g4b
    refine hp_s (pc' := 43) (ls' := [(5, .int 0), (6, .int 1), (0, .ref 57), (1, .int 3), (2, .int 3), (3, .int x), (4, .int v)]) (st' := []) rfl rfl rfl ?_
    refine hp_s (pc' := 46) (ls' := [(6, .int 2), (5, .int 0), (0, .ref 57), (1, .int 3), (2, .int 3), (3, .int x), (4, .int v)]) (st' := []) rfl rfl rfl ?_
    refine hp_go (pc' := 15) rfl rfl rfl ?_
    refine hp_s (pc' := 17) (st' := [.int 2]) rfl rfl rfl ?_
    refine hp_s (pc' := 19) (st' := [.int 8, .int 2]) rfl rfl rfl ?_
    refine hp_go (pc' := 22) rfl rfl rfl ?_
    refine hp_sta (k := 2) (pc' := 25) rfl rfl rfl ?_
    refine hp_s (pc' := 27) (st' := [.int 0, .retAddr 2]) rfl rfl rfl ?_
    refine hp_s (pc' := 28) (st' := [.int 4, .int 0, .retAddr 2]) rfl rfl rfl ?_
    refine hp_s (pc' := 29) (st' := [.int 0, .retAddr 2]) rfl rfl rfl ?_
    refine hp_s (pc' := 30) (st' := [.int 3, .int 0, .retAddr 2]) rfl rfl rfl ?_
    refine hp_s (pc' := 31) (st' := [.int 3, .retAddr 2]) rfl rfl rfl ?_
    refine hp_lds (v := 2) hro.2 rfl rfl (by decide +kernel) ?_
    intro g5a g5b
    refine hp_go (pc' := 49) rfl rfl rfl ?_
    refine hp_sta (k := 2) (pc' := 52) rfl rfl rfl ?_
    refine hp_s (pc' := 54) (st' := [.int 0, .retAddr 2]) rfl rfl rfl ?_
    refine hp_s (pc' := 55) (st' := [.int 4, .int 0, .retAddr 2]) rfl rfl rfl ?_
    refine hp_s (pc' := 56) (st' := [.int 0, .retAddr 2]) rfl rfl rfl ?_
    refine hp_s (pc' := 57) (st' := [.int 3, .int 0, .retAddr 2]) rfl rfl rfl ?_
    refine hp_s (pc' := 58) (st' := [.int 3, .retAddr 2]) rfl rfl rfl ?_
    refine hp_lds (v := 2) hro.2 rfl rfl (by decide +kernel) ?_
    intro g6a g6b
    refine hp_s (pc' := 61) (ls' := [(6, .int 2), (5, .int 0), (0, .ref 57), (1, .int 3), (2, .int 3), (3, .int x), (4, .int v)]) (st' := []) rfl rfl rfl ?_
    refine hp_s (pc' := 62) (st' := [.ref 57]) rfl rfl rfl ?_
    refine hp_get (k := 3) (pc' := 65) (v := (rI p 57 3)) rfl rfl rfl rfl rfl rfl ?_
    refine hp_s (pc' := 67) (st' := [.int 24, .int (rI p 57 3)]) rfl rfl rfl ?_
    refine hp_ic (pc' := 70) (t := 81) (a := (rI p 57 3).toInt) (b := 24) rfl rfl rfl rfl (by decide) (fun (h3 : 24 ≤ (rI p 57 3).toInt) => ?_) (fun (h4 : ¬ (24 ≤ (rI p 57 3).toInt)) => ?_)
    ·
      refine hp_s (pc' := 82) (st' := [.ref 57]) rfl rfl rfl ?_
      refine hp_s (pc' := 83) (st' := [.ref 57, .ref 57]) rfl rfl rfl ?_
      refine hp_get (k := 3) (pc' := 86) (v := (rI p 57 3)) rfl rfl rfl rfl rfl rfl ?_
      refine hp_s (pc' := 87) (st' := [.int 1, .int (rI p 57 3), .ref 57]) rfl rfl rfl ?_
      refine hp_z (pc' := 88) (e := (rI p 57 3) + 1) (st' := [.ref 57]) rfl rfl rfl ?_
      intro z11 hz11
      have ez11 := i_add hz11 (show (rI p 57 3).toInt = (rI p 57 3).toInt from rfl) (show (1 : Int32).toInt = 1 from by decide)
      refine hp_put (k := 3) (pc' := 91) rfl rfl rfl rfl rfl ?_
      intro p1 wp1 ep1
      have eB : p1 = hB1 p 2 := (by subst_vars; unfold hB1; first | rw [if_pos (by omega)] | rw [if_neg (by omega)])
      refine hp_s (pc' := 92) (st' := [.ref 57]) rfl rfl rfl ?_
      refine hp_s (pc' := 94) (st' := [.int 2, .ref 57]) rfl rfl rfl ?_
      refine hp_s (pc' := 95) (st' := [.int x, .int 2, .ref 57]) rfl rfl rfl ?_
      refine hp_s (pc' := 97) (st' := [.int v, .int x, .int 2, .ref 57]) rfl rfl rfl ?_
      refine hp_s (pc' := 98) (st' := [.int 1, .int v, .int x, .int 2, .ref 57]) rfl rfl rfl ?_
      refine hp_z (pc' := 99) (e := v + 1) (st' := [.int x, .int 2, .ref 57]) rfl rfl rfl ?_
      intro z12 hz12
      have ez12 := i_add hz12 (show v.toInt = v.toInt from rfl) (show (1 : Int32).toInt = 1 from by decide)
      refine hp_cv (r := 57) (o := 9) (kd := 1) (as := [.int 2, .int x, .int z12]) (rest := []) (pc' := 102) rfl rfl rfl rfl rfl rfl rfl rfl rfl (fun d1 => ?_)
      refine s_run2 hro (xi := x.toInt) rfl (vi := z12.toInt) rfl (by first | with_reducible assumption | omega | (rw [eB]; exact hKi_1 pre2) | (subst_vars; with_reducible (repeat (first | assumption | apply hKi_g)))) (by first | with_reducible assumption | omega | (rw [eB]; exact hKi_1 pre2) | (subst_vars; with_reducible (repeat (first | assumption | apply hKi_g)))) (by first | with_reducible assumption | omega | (rw [eB]; exact hKi_1 pre2) | (subst_vars; with_reducible (repeat (first | assumption | apply hKi_g)))) ?_
      intro y1 p2 h5 h6
      have qz := h5
      have qp := h6
      refine hp_id (st := [.int y1]) ?_
      refine hp_ri rfl rfl ?_
      first | (exact k0 _ _ (by first | (rw [qz, eB]; first | (rw [gO_1, gA_1]; rfl) | (rw [gA_1]; rfl) | rfl) | (rw [qp, eB]; first | (rw [gO_1]; rfl) | rfl)) (by first | (rw [qz, eB]; first | (rw [gO_1, gA_1]; rfl) | (rw [gA_1]; rfl) | rfl) | (rw [qp, eB]; first | (rw [gO_1]; rfl) | rfl))) | (exfalso; omega)
    ·
      refine hp_s (pc' := 71) (st' := [.ref 57]) rfl rfl rfl ?_
      refine hp_getr (k := 2) (w := .ref 59) (pc' := 74) rfl rfl rfl rfl rfl ?_
      refine hp_s (pc' := 75) (st' := [.ref 57, .ref 59]) rfl rfl rfl ?_
      refine hp_get (k := 3) (pc' := 78) (v := (rI p 57 3)) rfl rfl rfl rfl rfl rfl ?_
      refine hp_s (pc' := 80) (st' := [.int 2, .int (rI p 57 3), .ref 59]) rfl rfl rfl ?_
      refine hp_st (t := 100) rfl (.inl rfl) rfl rfl ?_
      intro p3 wp3 (p3a : 0 ≤ (rI p 57 3).toInt) (p3b : (rI p 57 3).toInt < 24) ep3
      refine hp_s (pc' := 82) (st' := [.ref 57]) rfl rfl rfl ?_
      refine hp_s (pc' := 83) (st' := [.ref 57, .ref 57]) rfl rfl rfl ?_
      refine hp_get (k := 3) (pc' := 86) (v := (rI p 57 3)) rfl rfl rfl rfl rfl (by rw [ep3, rI_o (by decide)]) ?_
      refine hp_s (pc' := 87) (st' := [.int 1, .int (rI p 57 3), .ref 57]) rfl rfl rfl ?_
      refine hp_z (pc' := 88) (e := (rI p 57 3) + 1) (st' := [.ref 57]) rfl rfl rfl ?_
      intro z13 hz13
      have ez13 := i_add hz13 (show (rI p 57 3).toInt = (rI p 57 3).toInt from rfl) (show (1 : Int32).toInt = 1 from by decide)
      refine hp_put (k := 3) (pc' := 91) rfl rfl rfl rfl rfl ?_
      intro p4 wp4 ep4
      have eB : p4 = hB1 p 2 := (by subst_vars; unfold hB1; first | rw [if_pos (by omega)] | rw [if_neg (by omega)])
      refine hp_s (pc' := 92) (st' := [.ref 57]) rfl rfl rfl ?_
      refine hp_s (pc' := 94) (st' := [.int 2, .ref 57]) rfl rfl rfl ?_
      refine hp_s (pc' := 95) (st' := [.int x, .int 2, .ref 57]) rfl rfl rfl ?_
      refine hp_s (pc' := 97) (st' := [.int v, .int x, .int 2, .ref 57]) rfl rfl rfl ?_
      refine hp_s (pc' := 98) (st' := [.int 1, .int v, .int x, .int 2, .ref 57]) rfl rfl rfl ?_
      refine hp_z (pc' := 99) (e := v + 1) (st' := [.int x, .int 2, .ref 57]) rfl rfl rfl ?_
      intro z14 hz14
      have ez14 := i_add hz14 (show v.toInt = v.toInt from rfl) (show (1 : Int32).toInt = 1 from by decide)
      refine hp_cv (r := 57) (o := 9) (kd := 1) (as := [.int 2, .int x, .int z14]) (rest := []) (pc' := 102) rfl rfl rfl rfl rfl rfl rfl rfl rfl (fun d2 => ?_)
      refine s_run2 hro (xi := x.toInt) rfl (vi := z14.toInt) rfl (by first | with_reducible assumption | omega | (rw [eB]; exact hKi_1 pre2) | (subst_vars; with_reducible (repeat (first | assumption | apply hKi_g)))) (by first | with_reducible assumption | omega | (rw [eB]; exact hKi_1 pre2) | (subst_vars; with_reducible (repeat (first | assumption | apply hKi_g)))) (by first | with_reducible assumption | omega | (rw [eB]; exact hKi_1 pre2) | (subst_vars; with_reducible (repeat (first | assumption | apply hKi_g)))) ?_
      intro y2 p5 h7 h8
      have qz := h7
      have qp := h8
      refine hp_id (st := [.int y2]) ?_
      refine hp_ri rfl rfl ?_
      first | (exact k0 _ _ (by first | (rw [qz, eB]; first | (rw [gO_1, gA_1]; rfl) | (rw [gA_1]; rfl) | rfl) | (rw [qp, eB]; first | (rw [gO_1]; rfl) | rfl)) (by first | (rw [qz, eB]; first | (rw [gO_1, gA_1]; rfl) | (rw [gA_1]; rfl) | rfl) | (rw [qp, eB]; first | (rw [gO_1]; rfl) | rfl))) | (exfalso; omega)
  ·
    refine hp_s (pc' := 8) (st' := [.int 0]) rfl rfl rfl ?_
    refine hp_ri rfl rfl ?_
    first | (exact k0 _ _ (by first | (rw [qz, eB]; first | (rw [gO_1, gA_1]; rfl) | (rw [gA_1]; rfl) | rfl) | (rw [qp, eB]; first | (rw [gO_1]; rfl) | rfl)) (by first | (rw [qz, eB]; first | (rw [gO_1, gA_1]; rfl) | (rw [gA_1]; rfl) | rfl) | (rw [qp, eB]; first | (rw [gO_1]; rfl) | rfl))) | (exfalso; omega)
theorem s_from4_3 {ro : List (List Int32)} {n d : Nat} {p : xH} {Q : Option Value → xH → Prop} {x : Int32} {xi : Int} {v : Int32} {vi : Int} (hro : jro ro) (hx : x.toInt = xi) (hv : v.toInt = vi) (pre0 : 0 ≤ vi) (pre1 : vi ≤ 35) (pre2 : hKi p) (k0 : ∀ z : Int32, ∀ p2 : xH, (z = aT (gO p) 4 (gA p) x) → (p2 = hBg p (nT (gO p) 4)) → Q (some (.int z)) p2) : hP ro n d (9, 7, 1, 1, k115) 0 (lv_args 0 [.ref 57, .int 4, .int 3, .int x, .int v]) [] p Q := by
  subst hx
  subst hv
  refine hp_id (ls := [(0, .ref 57), (1, .int 4), (2, .int 3), (3, .int x), (4, .int v)]) ?_
  refine hp_s (pc' := 2) (st' := [.int v]) rfl rfl rfl ?_
  refine hp_s (pc' := 4) (st' := [.int 40, .int v]) rfl rfl rfl ?_
  refine hp_ic (pc' := 7) (t := 9) (a := v.toInt) (b := 40) rfl rfl rfl rfl (by decide) (fun (h1 : v.toInt ≤ 40) => ?_) (fun (h2 : ¬ (v.toInt ≤ 40)) => ?_)
  ·
    refine hp_s (pc' := 10) (st' := [.int 4]) rfl rfl rfl ?_
    refine hp_s (pc' := 12) (ls' := [(5, .int 4), (0, .ref 57), (1, .int 4), (2, .int 3), (3, .int x), (4, .int v)]) (st' := []) rfl rfl rfl ?_
    refine hp_s (pc' := 13) (st' := [.int 0]) rfl rfl rfl ?_
    refine hp_s (pc' := 15) (ls' := [(6, .int 0), (5, .int 4), (0, .ref 57), (1, .int 4), (2, .int 3), (3, .int x), (4, .int v)]) (st' := []) rfl rfl rfl ?_
    refine hp_s (pc' := 17) (st' := [.int 0]) rfl rfl rfl ?_
    refine hp_s (pc' := 19) (st' := [.int 8, .int 0]) rfl rfl rfl ?_
    refine hp_go (pc' := 22) rfl rfl rfl ?_
    refine hp_sta (k := 2) (pc' := 25) rfl rfl rfl ?_
    refine hp_s (pc' := 27) (st' := [.int 4, .retAddr 2]) rfl rfl rfl ?_
    refine hp_s (pc' := 28) (st' := [.int 4, .int 4, .retAddr 2]) rfl rfl rfl ?_
    refine hp_s (pc' := 29) (st' := [.int 16, .retAddr 2]) rfl rfl rfl ?_
    refine hp_s (pc' := 30) (st' := [.int 3, .int 16, .retAddr 2]) rfl rfl rfl ?_
    refine hp_s (pc' := 31) (st' := [.int 19, .retAddr 2]) rfl rfl rfl ?_
    refine hp_lds (v := 0) hro.2 rfl rfl (by decide +kernel) ?_
    intro g1a g1b
    refine hp_go (pc' := 35) rfl rfl rfl ?_
    refine hp_sta (k := 1) (pc' := 38) rfl rfl rfl ?_
    refine hp_s (pc' := 40) (st' := [.int 4, .retAddr 1]) rfl rfl rfl ?_
    refine hp_lds (v := 1) hro.1 rfl rfl (by decide +kernel) ?_
    intro g2a g2b
    refine hp_s (pc' := 43) (ls' := [(5, .int 1), (6, .int 0), (0, .ref 57), (1, .int 4), (2, .int 3), (3, .int x), (4, .int v)]) (st' := []) rfl rfl rfl ?_
    refine hp_s (pc' := 46) (ls' := [(6, .int 1), (5, .int 1), (0, .ref 57), (1, .int 4), (2, .int 3), (3, .int x), (4, .int v)]) (st' := []) rfl rfl rfl ?_
    refine hp_go (pc' := 15) rfl rfl rfl ?_
    refine hp_s (pc' := 17) (st' := [.int 1]) rfl rfl rfl ?_
    refine hp_s (pc' := 19) (st' := [.int 8, .int 1]) rfl rfl rfl ?_
    refine hp_go (pc' := 22) rfl rfl rfl ?_
    refine hp_sta (k := 2) (pc' := 25) rfl rfl rfl ?_
    refine hp_s (pc' := 27) (st' := [.int 1, .retAddr 2]) rfl rfl rfl ?_
    refine hp_s (pc' := 28) (st' := [.int 4, .int 1, .retAddr 2]) rfl rfl rfl ?_
    refine hp_s (pc' := 29) (st' := [.int 4, .retAddr 2]) rfl rfl rfl ?_
    refine hp_s (pc' := 30) (st' := [.int 3, .int 4, .retAddr 2]) rfl rfl rfl ?_
    refine hp_s (pc' := 31) (st' := [.int 7, .retAddr 2]) rfl rfl rfl ?_
    refine hp_lds (v := 0) hro.2 rfl rfl (by decide +kernel) ?_
    intro g3a g3b
    refine hp_go (pc' := 35) rfl rfl rfl ?_
    refine hp_sta (k := 1) (pc' := 38) rfl rfl rfl ?_
    refine hp_s (pc' := 40) (st' := [.int 1, .retAddr 1]) rfl rfl rfl ?_
    refine hp_lds (v := 0) hro.1 rfl rfl (by decide +kernel) ?_
    intro g4a g4b
    refine hp_s (pc' := 43) (ls' := [(5, .int 0), (6, .int 1), (0, .ref 57), (1, .int 4), (2, .int 3), (3, .int x), (4, .int v)]) (st' := []) rfl rfl rfl ?_
    refine hp_s (pc' := 46) (ls' := [(6, .int 2), (5, .int 0), (0, .ref 57), (1, .int 4), (2, .int 3), (3, .int x), (4, .int v)]) (st' := []) rfl rfl rfl ?_
    refine hp_go (pc' := 15) rfl rfl rfl ?_
    refine hp_s (pc' := 17) (st' := [.int 2]) rfl rfl rfl ?_
    refine hp_s (pc' := 19) (st' := [.int 8, .int 2]) rfl rfl rfl ?_
    refine hp_go (pc' := 22) rfl rfl rfl ?_
    refine hp_sta (k := 2) (pc' := 25) rfl rfl rfl ?_
    refine hp_s (pc' := 27) (st' := [.int 0, .retAddr 2]) rfl rfl rfl ?_
    refine hp_s (pc' := 28) (st' := [.int 4, .int 0, .retAddr 2]) rfl rfl rfl ?_
    refine hp_s (pc' := 29) (st' := [.int 0, .retAddr 2]) rfl rfl rfl ?_
    refine hp_s (pc' := 30) (st' := [.int 3, .int 0, .retAddr 2]) rfl rfl rfl ?_
    refine hp_s (pc' := 31) (st' := [.int 3, .retAddr 2]) rfl rfl rfl ?_
    refine hp_lds (v := 2) hro.2 rfl rfl (by decide +kernel) ?_
    intro g5a g5b
    refine hp_go (pc' := 49) rfl rfl rfl ?_
    refine hp_sta (k := 2) (pc' := 52) rfl rfl rfl ?_
    refine hp_s (pc' := 54) (st' := [.int 0, .retAddr 2]) rfl rfl rfl ?_
    refine hp_s (pc' := 55) (st' := [.int 4, .int 0, .retAddr 2]) rfl rfl rfl ?_
    refine hp_s (pc' := 56) (st' := [.int 0, .retAddr 2]) rfl rfl rfl ?_
    refine hp_s (pc' := 57) (st' := [.int 3, .int 0, .retAddr 2]) rfl rfl rfl ?_
    refine hp_s (pc' := 58) (st' := [.int 3, .retAddr 2]) rfl rfl rfl ?_
    refine hp_lds (v := 2) hro.2 rfl rfl (by decide +kernel) ?_
    intro g6a g6b
    refine hp_s (pc' := 61) (ls' := [(6, .int 2), (5, .int 0), (0, .ref 57), (1, .int 4), (2, .int 3), (3, .int x), (4, .int v)]) (st' := []) rfl rfl rfl ?_
    refine hp_s (pc' := 62) (st' := [.ref 57]) rfl rfl rfl ?_
    refine hp_get (k := 3) (pc' := 65) (v := (rI p 57 3)) rfl rfl rfl rfl rfl rfl ?_
    refine hp_s (pc' := 67) (st' := [.int 24, .int (rI p 57 3)]) rfl rfl rfl ?_
    refine hp_ic (pc' := 70) (t := 81) (a := (rI p 57 3).toInt) (b := 24) rfl rfl rfl rfl (by decide) (fun (h3 : 24 ≤ (rI p 57 3).toInt) => ?_) (fun (h4 : ¬ (24 ≤ (rI p 57 3).toInt)) => ?_)
    ·
      refine hp_s (pc' := 82) (st' := [.ref 57]) rfl rfl rfl ?_
      refine hp_s (pc' := 83) (st' := [.ref 57, .ref 57]) rfl rfl rfl ?_
      refine hp_get (k := 3) (pc' := 86) (v := (rI p 57 3)) rfl rfl rfl rfl rfl rfl ?_
      refine hp_s (pc' := 87) (st' := [.int 1, .int (rI p 57 3), .ref 57]) rfl rfl rfl ?_
      refine hp_z (pc' := 88) (e := (rI p 57 3) + 1) (st' := [.ref 57]) rfl rfl rfl ?_
      intro z11 hz11
      have ez11 := i_add hz11 (show (rI p 57 3).toInt = (rI p 57 3).toInt from rfl) (show (1 : Int32).toInt = 1 from by decide)
      refine hp_put (k := 3) (pc' := 91) rfl rfl rfl rfl rfl ?_
      intro p1 wp1 ep1
      have eB : p1 = hB1 p 2 := (by subst_vars; unfold hB1; first | rw [if_pos (by omega)] | rw [if_neg (by omega)])
      refine hp_s (pc' := 92) (st' := [.ref 57]) rfl rfl rfl ?_
      refine hp_s (pc' := 94) (st' := [.int 2, .ref 57]) rfl rfl rfl ?_
      refine hp_s (pc' := 95) (st' := [.int x, .int 2, .ref 57]) rfl rfl rfl ?_
      refine hp_s (pc' := 97) (st' := [.int v, .int x, .int 2, .ref 57]) rfl rfl rfl ?_
      refine hp_s (pc' := 98) (st' := [.int 1, .int v, .int x, .int 2, .ref 57]) rfl rfl rfl ?_
      refine hp_z (pc' := 99) (e := v + 1) (st' := [.int x, .int 2, .ref 57]) rfl rfl rfl ?_
      intro z12 hz12
      have ez12 := i_add hz12 (show v.toInt = v.toInt from rfl) (show (1 : Int32).toInt = 1 from by decide)
      refine hp_cv (r := 57) (o := 9) (kd := 1) (as := [.int 2, .int x, .int z12]) (rest := []) (pc' := 102) rfl rfl rfl rfl rfl rfl rfl rfl rfl (fun d1 => ?_)
      refine s_run2 hro (xi := x.toInt) rfl (vi := z12.toInt) rfl (by first | with_reducible assumption | omega | (rw [eB]; exact hKi_1 pre2) | (subst_vars; with_reducible (repeat (first | assumption | apply hKi_g)))) (by first | with_reducible assumption | omega | (rw [eB]; exact hKi_1 pre2) | (subst_vars; with_reducible (repeat (first | assumption | apply hKi_g)))) (by first | with_reducible assumption | omega | (rw [eB]; exact hKi_1 pre2) | (subst_vars; with_reducible (repeat (first | assumption | apply hKi_g)))) ?_
      intro y1 p2 h5 h6
      have qz := h5
      have qp := h6
      refine hp_id (st := [.int y1]) ?_
      refine hp_ri rfl rfl ?_
      first | (exact k0 _ _ (by first | (rw [qz, eB]; first | (rw [gO_1, gA_1]; rfl) | (rw [gA_1]; rfl) | rfl) | (rw [qp, eB]; first | (rw [gO_1]; rfl) | rfl)) (by first | (rw [qz, eB]; first | (rw [gO_1, gA_1]; rfl) | (rw [gA_1]; rfl) | rfl) | (rw [qp, eB]; first | (rw [gO_1]; rfl) | rfl))) | (exfalso; omega)
    ·
      refine hp_s (pc' := 71) (st' := [.ref 57]) rfl rfl rfl ?_
      refine hp_getr (k := 2) (w := .ref 59) (pc' := 74) rfl rfl rfl rfl rfl ?_
      refine hp_s (pc' := 75) (st' := [.ref 57, .ref 59]) rfl rfl rfl ?_
      refine hp_get (k := 3) (pc' := 78) (v := (rI p 57 3)) rfl rfl rfl rfl rfl rfl ?_
      refine hp_s (pc' := 80) (st' := [.int 2, .int (rI p 57 3), .ref 59]) rfl rfl rfl ?_
      refine hp_st (t := 100) rfl (.inl rfl) rfl rfl ?_
      intro p3 wp3 (p3a : 0 ≤ (rI p 57 3).toInt) (p3b : (rI p 57 3).toInt < 24) ep3
      refine hp_s (pc' := 82) (st' := [.ref 57]) rfl rfl rfl ?_
      refine hp_s (pc' := 83) (st' := [.ref 57, .ref 57]) rfl rfl rfl ?_
      refine hp_get (k := 3) (pc' := 86) (v := (rI p 57 3)) rfl rfl rfl rfl rfl (by rw [ep3, rI_o (by decide)]) ?_
      refine hp_s (pc' := 87) (st' := [.int 1, .int (rI p 57 3), .ref 57]) rfl rfl rfl ?_
      refine hp_z (pc' := 88) (e := (rI p 57 3) + 1) (st' := [.ref 57]) rfl rfl rfl ?_
      intro z13 hz13
      have ez13 := i_add hz13 (show (rI p 57 3).toInt = (rI p 57 3).toInt from rfl) (show (1 : Int32).toInt = 1 from by decide)
      refine hp_put (k := 3) (pc' := 91) rfl rfl rfl rfl rfl ?_
      intro p4 wp4 ep4
      have eB : p4 = hB1 p 2 := (by subst_vars; unfold hB1; first | rw [if_pos (by omega)] | rw [if_neg (by omega)])
      refine hp_s (pc' := 92) (st' := [.ref 57]) rfl rfl rfl ?_
      refine hp_s (pc' := 94) (st' := [.int 2, .ref 57]) rfl rfl rfl ?_
      refine hp_s (pc' := 95) (st' := [.int x, .int 2, .ref 57]) rfl rfl rfl ?_
      refine hp_s (pc' := 97) (st' := [.int v, .int x, .int 2, .ref 57]) rfl rfl rfl ?_
      refine hp_s (pc' := 98) (st' := [.int 1, .int v, .int x, .int 2, .ref 57]) rfl rfl rfl ?_
      refine hp_z (pc' := 99) (e := v + 1) (st' := [.int x, .int 2, .ref 57]) rfl rfl rfl ?_
      intro z14 hz14
      have ez14 := i_add hz14 (show v.toInt = v.toInt from rfl) (show (1 : Int32).toInt = 1 from by decide)
      refine hp_cv (r := 57) (o := 9) (kd := 1) (as := [.int 2, .int x, .int z14]) (rest := []) (pc' := 102) rfl rfl rfl rfl rfl rfl rfl rfl rfl (fun d2 => ?_)
      refine s_run2 hro (xi := x.toInt) rfl (vi := z14.toInt) rfl (by first | with_reducible assumption | omega | (rw [eB]; exact hKi_1 pre2) | (subst_vars; with_reducible (repeat (first | assumption | apply hKi_g)))) (by first | with_reducible assumption | omega | (rw [eB]; exact hKi_1 pre2) | (subst_vars; with_reducible (repeat (first | assumption | apply hKi_g)))) (by first | with_reducible assumption | omega | (rw [eB]; exact hKi_1 pre2) | (subst_vars; with_reducible (repeat (first | assumption | apply hKi_g)))) ?_
      intro y2 p5 h7 h8
      have qz := h7
      have qp := h8
      refine hp_id (st := [.int y2]) ?_
      refine hp_ri rfl rfl ?_
      first | (exact k0 _ _ (by first | (rw [qz, eB]; first | (rw [gO_1, gA_1]; rfl) | (rw [gA_1]; rfl) | rfl) | (rw [qp, eB]; first | (rw [gO_1]; rfl) | rfl)) (by first | (rw [qz, eB]; first | (rw [gO_1, gA_1]; rfl) | (rw [gA_1]; rfl) | rfl) | (rw [qp, eB]; first | (rw [gO_1]; rfl) | rfl))) | (exfalso; omega)
  ·
    refine hp_s (pc' := 8) (st' := [.int 0]) rfl rfl rfl ?_
    refine hp_ri rfl rfl ?_
    first | (exact k0 _ _ (by first | (rw [qz, eB]; first | (rw [gO_1, gA_1]; rfl) | (rw [gA_1]; rfl) | rfl) | (rw [qp, eB]; first | (rw [gO_1]; rfl) | rfl)) (by first | (rw [qz, eB]; first | (rw [gO_1, gA_1]; rfl) | (rw [gA_1]; rfl) | rfl) | (rw [qp, eB]; first | (rw [gO_1]; rfl) | rfl))) | (exfalso; omega)
theorem s_run60 {ro : List (List Int32)} {n d : Nat} {p : xH} {Q : Option Value → xH → Prop} {x : Int32} {xi : Int} {v : Int32} {vi : Int} (hro : jro ro) (hx : x.toInt = xi) (hv : v.toInt = vi) (pre0 : 0 ≤ vi) (pre1 : vi ≤ 35) (pre2 : hKi p) (k0 : ∀ z : Int32, ∀ p2 : xH, (z = aT (gO p) 3 (gA p) x ^^^ 5) → (p2 = hBg p (nT (gO p) 3)) → Q (some (.int z)) p2) : hP ro n d (9, 7, 1, 1, k116) 0 (lv_args 0 [.ref 57, .int 60, .int x, .int v]) [] p Q := by
  subst hx
  subst hv
  refine hp_id (ls := [(0, .ref 57), (1, .int 60), (2, .int x), (3, .int v)]) ?_
  refine hp_s (pc' := 1) (st' := [.int 60]) rfl rfl rfl ?_
  refine hp_go (pc' := 224) rfl rfl rfl ?_
  refine hp_s (pc' := 225) (st' := [.ref 57]) rfl rfl rfl ?_
  refine hp_s (pc' := 226) (st' := [.int 3, .ref 57]) rfl rfl rfl ?_
  refine hp_s (pc' := 227) (st' := [.int 3, .int 3, .ref 57]) rfl rfl rfl ?_
  refine hp_s (pc' := 228) (st' := [.int x, .int 3, .int 3, .ref 57]) rfl rfl rfl ?_
  refine hp_s (pc' := 229) (st' := [.int v, .int x, .int 3, .int 3, .ref 57]) rfl rfl rfl ?_
  refine hp_cv (r := 57) (o := 9) (kd := 1) (as := [.int 3, .int 3, .int x, .int v]) (rest := []) (pc' := 232) rfl rfl rfl rfl rfl rfl rfl rfl rfl (fun d1 => ?_)
  refine s_from3_3 hro (xi := x.toInt) rfl (vi := v.toInt) rfl (by first | with_reducible assumption | omega | (rw [eB]; exact hKi_1 pre2) | (subst_vars; with_reducible (repeat (first | assumption | apply hKi_g)))) (by first | with_reducible assumption | omega | (rw [eB]; exact hKi_1 pre2) | (subst_vars; with_reducible (repeat (first | assumption | apply hKi_g)))) (by first | with_reducible assumption | omega | (rw [eB]; exact hKi_1 pre2) | (subst_vars; with_reducible (repeat (first | assumption | apply hKi_g)))) ?_
  intro y1 p1 h1 h2
  refine hp_id (st := [.int y1]) ?_
  refine hp_s (pc' := 233) (st' := [.int 5, .int y1]) rfl rfl rfl ?_
  refine hp_z (pc' := 234) (e := y1 ^^^ 5) (st' := []) rfl rfl rfl ?_
  intro z1 hz1
  refine hp_ri rfl rfl ?_
  first | (exact k0 _ _ (by first | assumption | (subst_vars; first | rfl | (simp only [gO_g, gA_g, hBg_app]; done) | (simp only [gO_g, gA_g, hBg_app]; rfl))) (by first | assumption | (subst_vars; first | rfl | (simp only [gO_g, gA_g, hBg_app]; done) | (simp only [gO_g, gA_g, hBg_app]; rfl)))) | (exfalso; omega)
theorem s_from5_3 {ro : List (List Int32)} {n d : Nat} {p : xH} {Q : Option Value → xH → Prop} {x : Int32} {xi : Int} {v : Int32} {vi : Int} (hro : jro ro) (hx : x.toInt = xi) (hv : v.toInt = vi) (pre0 : 0 ≤ vi) (pre1 : vi ≤ 34) (pre2 : hKi p) (k0 : ∀ z : Int32, ∀ p2 : xH, (z = aT (gO p) 5 (gA p) x) → (p2 = hBg p (nT (gO p) 5)) → Q (some (.int z)) p2) : hP ro n d (9, 7, 1, 1, k115) 0 (lv_args 0 [.ref 57, .int 5, .int 3, .int x, .int v]) [] p Q := by
  subst hx
  subst hv
  refine hp_id (ls := [(0, .ref 57), (1, .int 5), (2, .int 3), (3, .int x), (4, .int v)]) ?_
  refine hp_s (pc' := 2) (st' := [.int v]) rfl rfl rfl ?_
  refine hp_s (pc' := 4) (st' := [.int 40, .int v]) rfl rfl rfl ?_
  refine hp_ic (pc' := 7) (t := 9) (a := v.toInt) (b := 40) rfl rfl rfl rfl (by decide) (fun (h1 : v.toInt ≤ 40) => ?_) (fun (h2 : ¬ (v.toInt ≤ 40)) => ?_)
  ·
    refine hp_s (pc' := 10) (st' := [.int 5]) rfl rfl rfl ?_
    refine hp_s (pc' := 12) (ls' := [(5, .int 5), (0, .ref 57), (1, .int 5), (2, .int 3), (3, .int x), (4, .int v)]) (st' := []) rfl rfl rfl ?_
    refine hp_s (pc' := 13) (st' := [.int 0]) rfl rfl rfl ?_
    refine hp_s (pc' := 15) (ls' := [(6, .int 0), (5, .int 5), (0, .ref 57), (1, .int 5), (2, .int 3), (3, .int x), (4, .int v)]) (st' := []) rfl rfl rfl ?_
    refine hp_s (pc' := 17) (st' := [.int 0]) rfl rfl rfl ?_
    refine hp_s (pc' := 19) (st' := [.int 8, .int 0]) rfl rfl rfl ?_
    refine hp_go (pc' := 22) rfl rfl rfl ?_
    refine hp_sta (k := 2) (pc' := 25) rfl rfl rfl ?_
    refine hp_s (pc' := 27) (st' := [.int 5, .retAddr 2]) rfl rfl rfl ?_
    refine hp_s (pc' := 28) (st' := [.int 4, .int 5, .retAddr 2]) rfl rfl rfl ?_
    refine hp_s (pc' := 29) (st' := [.int 20, .retAddr 2]) rfl rfl rfl ?_
    refine hp_s (pc' := 30) (st' := [.int 3, .int 20, .retAddr 2]) rfl rfl rfl ?_
    refine hp_s (pc' := 31) (st' := [.int 23, .retAddr 2]) rfl rfl rfl ?_
    refine hp_lds (v := 60) hro.2 rfl rfl (by decide +kernel) ?_
    intro g1a g1b
    refine hp_go (pc' := 49) rfl rfl rfl ?_
    refine hp_sta (k := 2) (pc' := 52) rfl rfl rfl ?_
    refine hp_s (pc' := 54) (st' := [.int 5, .retAddr 2]) rfl rfl rfl ?_
    refine hp_s (pc' := 55) (st' := [.int 4, .int 5, .retAddr 2]) rfl rfl rfl ?_
    refine hp_s (pc' := 56) (st' := [.int 20, .retAddr 2]) rfl rfl rfl ?_
    refine hp_s (pc' := 57) (st' := [.int 3, .int 20, .retAddr 2]) rfl rfl rfl ?_
    refine hp_s (pc' := 58) (st' := [.int 23, .retAddr 2]) rfl rfl rfl ?_
    refine hp_lds (v := 60) hro.2 rfl rfl (by decide +kernel) ?_
    intro g2a g2b
    refine hp_s (pc' := 61) (ls' := [(6, .int 60), (5, .int 5), (0, .ref 57), (1, .int 5), (2, .int 3), (3, .int x), (4, .int v)]) (st' := []) rfl rfl rfl ?_
    refine hp_s (pc' := 62) (st' := [.ref 57]) rfl rfl rfl ?_
    refine hp_get (k := 3) (pc' := 65) (v := (rI p 57 3)) rfl rfl rfl rfl rfl rfl ?_
    refine hp_s (pc' := 67) (st' := [.int 24, .int (rI p 57 3)]) rfl rfl rfl ?_
    refine hp_ic (pc' := 70) (t := 81) (a := (rI p 57 3).toInt) (b := 24) rfl rfl rfl rfl (by decide) (fun (h3 : 24 ≤ (rI p 57 3).toInt) => ?_) (fun (h4 : ¬ (24 ≤ (rI p 57 3).toInt)) => ?_)
    ·
      refine hp_s (pc' := 82) (st' := [.ref 57]) rfl rfl rfl ?_
      refine hp_s (pc' := 83) (st' := [.ref 57, .ref 57]) rfl rfl rfl ?_
      refine hp_get (k := 3) (pc' := 86) (v := (rI p 57 3)) rfl rfl rfl rfl rfl rfl ?_
      refine hp_s (pc' := 87) (st' := [.int 1, .int (rI p 57 3), .ref 57]) rfl rfl rfl ?_
      refine hp_z (pc' := 88) (e := (rI p 57 3) + 1) (st' := [.ref 57]) rfl rfl rfl ?_
      intro z5 hz5
      have ez5 := i_add hz5 (show (rI p 57 3).toInt = (rI p 57 3).toInt from rfl) (show (1 : Int32).toInt = 1 from by decide)
      refine hp_put (k := 3) (pc' := 91) rfl rfl rfl rfl rfl ?_
      intro p1 wp1 ep1
      have eB : p1 = hB1 p 60 := (by subst_vars; unfold hB1; first | rw [if_pos (by omega)] | rw [if_neg (by omega)])
      refine hp_s (pc' := 92) (st' := [.ref 57]) rfl rfl rfl ?_
      refine hp_s (pc' := 94) (st' := [.int 60, .ref 57]) rfl rfl rfl ?_
      refine hp_s (pc' := 95) (st' := [.int x, .int 60, .ref 57]) rfl rfl rfl ?_
      refine hp_s (pc' := 97) (st' := [.int v, .int x, .int 60, .ref 57]) rfl rfl rfl ?_
      refine hp_s (pc' := 98) (st' := [.int 1, .int v, .int x, .int 60, .ref 57]) rfl rfl rfl ?_
      refine hp_z (pc' := 99) (e := v + 1) (st' := [.int x, .int 60, .ref 57]) rfl rfl rfl ?_
      intro z6 hz6
      have ez6 := i_add hz6 (show v.toInt = v.toInt from rfl) (show (1 : Int32).toInt = 1 from by decide)
      refine hp_cv (r := 57) (o := 9) (kd := 1) (as := [.int 60, .int x, .int z6]) (rest := []) (pc' := 102) rfl rfl rfl rfl rfl rfl rfl rfl rfl (fun d1 => ?_)
      refine s_run60 hro (xi := x.toInt) rfl (vi := z6.toInt) rfl (by first | with_reducible assumption | omega | (rw [eB]; exact hKi_1 pre2) | (subst_vars; with_reducible (repeat (first | assumption | apply hKi_g)))) (by first | with_reducible assumption | omega | (rw [eB]; exact hKi_1 pre2) | (subst_vars; with_reducible (repeat (first | assumption | apply hKi_g)))) (by first | with_reducible assumption | omega | (rw [eB]; exact hKi_1 pre2) | (subst_vars; with_reducible (repeat (first | assumption | apply hKi_g)))) ?_
      intro y1 p2 h5 h6
      have qz := h5
      have qp := h6
      refine hp_id (st := [.int y1]) ?_
      refine hp_ri rfl rfl ?_
      first | (exact k0 _ _ (by first | (rw [qz, eB]; first | (rw [gO_1, gA_1]; rfl) | (rw [gA_1]; rfl) | rfl) | (rw [qp, eB]; first | (rw [gO_1]; rfl) | rfl)) (by first | (rw [qz, eB]; first | (rw [gO_1, gA_1]; rfl) | (rw [gA_1]; rfl) | rfl) | (rw [qp, eB]; first | (rw [gO_1]; rfl) | rfl))) | (exfalso; omega)
    ·
      refine hp_s (pc' := 71) (st' := [.ref 57]) rfl rfl rfl ?_
      refine hp_getr (k := 2) (w := .ref 59) (pc' := 74) rfl rfl rfl rfl rfl ?_
      refine hp_s (pc' := 75) (st' := [.ref 57, .ref 59]) rfl rfl rfl ?_
      refine hp_get (k := 3) (pc' := 78) (v := (rI p 57 3)) rfl rfl rfl rfl rfl rfl ?_
      refine hp_s (pc' := 80) (st' := [.int 60, .int (rI p 57 3), .ref 59]) rfl rfl rfl ?_
      refine hp_st (t := 100) rfl (.inl rfl) rfl rfl ?_
      intro p3 wp3 (p3a : 0 ≤ (rI p 57 3).toInt) (p3b : (rI p 57 3).toInt < 24) ep3
      refine hp_s (pc' := 82) (st' := [.ref 57]) rfl rfl rfl ?_
      refine hp_s (pc' := 83) (st' := [.ref 57, .ref 57]) rfl rfl rfl ?_
      refine hp_get (k := 3) (pc' := 86) (v := (rI p 57 3)) rfl rfl rfl rfl rfl (by rw [ep3, rI_o (by decide)]) ?_
      refine hp_s (pc' := 87) (st' := [.int 1, .int (rI p 57 3), .ref 57]) rfl rfl rfl ?_
      refine hp_z (pc' := 88) (e := (rI p 57 3) + 1) (st' := [.ref 57]) rfl rfl rfl ?_
      intro z7 hz7
      have ez7 := i_add hz7 (show (rI p 57 3).toInt = (rI p 57 3).toInt from rfl) (show (1 : Int32).toInt = 1 from by decide)
      refine hp_put (k := 3) (pc' := 91) rfl rfl rfl rfl rfl ?_
      intro p4 wp4 ep4
      have eB : p4 = hB1 p 60 := (by subst_vars; unfold hB1; first | rw [if_pos (by omega)] | rw [if_neg (by omega)])
      refine hp_s (pc' := 92) (st' := [.ref 57]) rfl rfl rfl ?_
      refine hp_s (pc' := 94) (st' := [.int 60, .ref 57]) rfl rfl rfl ?_
      refine hp_s (pc' := 95) (st' := [.int x, .int 60, .ref 57]) rfl rfl rfl ?_
      refine hp_s (pc' := 97) (st' := [.int v, .int x, .int 60, .ref 57]) rfl rfl rfl ?_
      refine hp_s (pc' := 98) (st' := [.int 1, .int v, .int x, .int 60, .ref 57]) rfl rfl rfl ?_
      refine hp_z (pc' := 99) (e := v + 1) (st' := [.int x, .int 60, .ref 57]) rfl rfl rfl ?_
      intro z8 hz8
      have ez8 := i_add hz8 (show v.toInt = v.toInt from rfl) (show (1 : Int32).toInt = 1 from by decide)
      refine hp_cv (r := 57) (o := 9) (kd := 1) (as := [.int 60, .int x, .int z8]) (rest := []) (pc' := 102) rfl rfl rfl rfl rfl rfl rfl rfl rfl (fun d2 => ?_)
      refine s_run60 hro (xi := x.toInt) rfl (vi := z8.toInt) rfl (by first | with_reducible assumption | omega | (rw [eB]; exact hKi_1 pre2) | (subst_vars; with_reducible (repeat (first | assumption | apply hKi_g)))) (by first | with_reducible assumption | omega | (rw [eB]; exact hKi_1 pre2) | (subst_vars; with_reducible (repeat (first | assumption | apply hKi_g)))) (by first | with_reducible assumption | omega | (rw [eB]; exact hKi_1 pre2) | (subst_vars; with_reducible (repeat (first | assumption | apply hKi_g)))) ?_
      intro y2 p5 h7 h8
      have qz := h7
      have qp := h8
      refine hp_id (st := [.int y2]) ?_
      refine hp_ri rfl rfl ?_
      first | (exact k0 _ _ (by first | (rw [qz, eB]; first | (rw [gO_1, gA_1]; rfl) | (rw [gA_1]; rfl) | rfl) | (rw [qp, eB]; first | (rw [gO_1]; rfl) | rfl)) (by first | (rw [qz, eB]; first | (rw [gO_1, gA_1]; rfl) | (rw [gA_1]; rfl) | rfl) | (rw [qp, eB]; first | (rw [gO_1]; rfl) | rfl))) | (exfalso; omega)
  ·
    refine hp_s (pc' := 8) (st' := [.int 0]) rfl rfl rfl ?_
    refine hp_ri rfl rfl ?_
    first | (exact k0 _ _ (by first | (rw [qz, eB]; first | (rw [gO_1, gA_1]; rfl) | (rw [gA_1]; rfl) | rfl) | (rw [qp, eB]; first | (rw [gO_1]; rfl) | rfl)) (by first | (rw [qz, eB]; first | (rw [gO_1, gA_1]; rfl) | (rw [gA_1]; rfl) | rfl) | (rw [qp, eB]; first | (rw [gO_1]; rfl) | rfl))) | (exfalso; omega)
theorem s_from6_3 {ro : List (List Int32)} {n d : Nat} {p : xH} {Q : Option Value → xH → Prop} {x : Int32} {xi : Int} {v : Int32} {vi : Int} (hro : jro ro) (hx : x.toInt = xi) (hv : v.toInt = vi) (pre0 : 0 ≤ vi) (pre1 : vi ≤ 35) (pre2 : hKi p) (k0 : ∀ z : Int32, ∀ p2 : xH, (z = aT (gO p) 6 (gA p) x) → (p2 = hBg p (nT (gO p) 6)) → Q (some (.int z)) p2) : hP ro n d (9, 7, 1, 1, k115) 0 (lv_args 0 [.ref 57, .int 6, .int 3, .int x, .int v]) [] p Q := by
  subst hx
  subst hv
  refine hp_id (ls := [(0, .ref 57), (1, .int 6), (2, .int 3), (3, .int x), (4, .int v)]) ?_
  refine hp_s (pc' := 2) (st' := [.int v]) rfl rfl rfl ?_
  refine hp_s (pc' := 4) (st' := [.int 40, .int v]) rfl rfl rfl ?_
  refine hp_ic (pc' := 7) (t := 9) (a := v.toInt) (b := 40) rfl rfl rfl rfl (by decide) (fun (h1 : v.toInt ≤ 40) => ?_) (fun (h2 : ¬ (v.toInt ≤ 40)) => ?_)
  ·
    refine hp_s (pc' := 10) (st' := [.int 6]) rfl rfl rfl ?_
    refine hp_s (pc' := 12) (ls' := [(5, .int 6), (0, .ref 57), (1, .int 6), (2, .int 3), (3, .int x), (4, .int v)]) (st' := []) rfl rfl rfl ?_
    refine hp_s (pc' := 13) (st' := [.int 0]) rfl rfl rfl ?_
    refine hp_s (pc' := 15) (ls' := [(6, .int 0), (5, .int 6), (0, .ref 57), (1, .int 6), (2, .int 3), (3, .int x), (4, .int v)]) (st' := []) rfl rfl rfl ?_
    refine hp_s (pc' := 17) (st' := [.int 0]) rfl rfl rfl ?_
    refine hp_s (pc' := 19) (st' := [.int 8, .int 0]) rfl rfl rfl ?_
    refine hp_go (pc' := 22) rfl rfl rfl ?_
    refine hp_sta (k := 2) (pc' := 25) rfl rfl rfl ?_
    refine hp_s (pc' := 27) (st' := [.int 6, .retAddr 2]) rfl rfl rfl ?_
    refine hp_s (pc' := 28) (st' := [.int 4, .int 6, .retAddr 2]) rfl rfl rfl ?_
    refine hp_s (pc' := 29) (st' := [.int 24, .retAddr 2]) rfl rfl rfl ?_
    refine hp_s (pc' := 30) (st' := [.int 3, .int 24, .retAddr 2]) rfl rfl rfl ?_
    refine hp_s (pc' := 31) (st' := [.int 27, .retAddr 2]) rfl rfl rfl ?_
    refine hp_lds (v := 0) hro.2 rfl rfl (by decide +kernel) ?_
    intro g1a g1b
    refine hp_go (pc' := 35) rfl rfl rfl ?_
    refine hp_sta (k := 1) (pc' := 38) rfl rfl rfl ?_
    refine hp_s (pc' := 40) (st' := [.int 6, .retAddr 1]) rfl rfl rfl ?_
    refine hp_lds (v := 0) hro.1 rfl rfl (by decide +kernel) ?_
    intro g2a g2b
    refine hp_s (pc' := 43) (ls' := [(5, .int 0), (6, .int 0), (0, .ref 57), (1, .int 6), (2, .int 3), (3, .int x), (4, .int v)]) (st' := []) rfl rfl rfl ?_
    refine hp_s (pc' := 46) (ls' := [(6, .int 1), (5, .int 0), (0, .ref 57), (1, .int 6), (2, .int 3), (3, .int x), (4, .int v)]) (st' := []) rfl rfl rfl ?_
    refine hp_go (pc' := 15) rfl rfl rfl ?_
    refine hp_s (pc' := 17) (st' := [.int 1]) rfl rfl rfl ?_
    refine hp_s (pc' := 19) (st' := [.int 8, .int 1]) rfl rfl rfl ?_
    refine hp_go (pc' := 22) rfl rfl rfl ?_
    refine hp_sta (k := 2) (pc' := 25) rfl rfl rfl ?_
    refine hp_s (pc' := 27) (st' := [.int 0, .retAddr 2]) rfl rfl rfl ?_
    refine hp_s (pc' := 28) (st' := [.int 4, .int 0, .retAddr 2]) rfl rfl rfl ?_
    refine hp_s (pc' := 29) (st' := [.int 0, .retAddr 2]) rfl rfl rfl ?_
    refine hp_s (pc' := 30) (st' := [.int 3, .int 0, .retAddr 2]) rfl rfl rfl ?_
    refine hp_s (pc' := 31) (st' := [.int 3, .retAddr 2]) rfl rfl rfl ?_
    refine hp_lds (v := 2) hro.2 rfl rfl (by decide +kernel) ?_
    intro g3a g3b
    refine hp_go (pc' := 49) rfl rfl rfl ?_
    refine hp_sta (k := 2) (pc' := 52) rfl rfl rfl ?_
    refine hp_s (pc' := 54) (st' := [.int 0, .retAddr 2]) rfl rfl rfl ?_
    refine hp_s (pc' := 55) (st' := [.int 4, .int 0, .retAddr 2]) rfl rfl rfl ?_
    refine hp_s (pc' := 56) (st' := [.int 0, .retAddr 2]) rfl rfl rfl ?_
    refine hp_s (pc' := 57) (st' := [.int 3, .int 0, .retAddr 2]) rfl rfl rfl ?_
    refine hp_s (pc' := 58) (st' := [.int 3, .retAddr 2]) rfl rfl rfl ?_
    refine hp_lds (v := 2) hro.2 rfl rfl (by decide +kernel) ?_
    intro g4a g4b
    refine hp_s (pc' := 61) (ls' := [(6, .int 2), (5, .int 0), (0, .ref 57), (1, .int 6), (2, .int 3), (3, .int x), (4, .int v)]) (st' := []) rfl rfl rfl ?_
    refine hp_s (pc' := 62) (st' := [.ref 57]) rfl rfl rfl ?_
    refine hp_get (k := 3) (pc' := 65) (v := (rI p 57 3)) rfl rfl rfl rfl rfl rfl ?_
    refine hp_s (pc' := 67) (st' := [.int 24, .int (rI p 57 3)]) rfl rfl rfl ?_
    refine hp_ic (pc' := 70) (t := 81) (a := (rI p 57 3).toInt) (b := 24) rfl rfl rfl rfl (by decide) (fun (h3 : 24 ≤ (rI p 57 3).toInt) => ?_) (fun (h4 : ¬ (24 ≤ (rI p 57 3).toInt)) => ?_)
    ·
      refine hp_s (pc' := 82) (st' := [.ref 57]) rfl rfl rfl ?_
      refine hp_s (pc' := 83) (st' := [.ref 57, .ref 57]) rfl rfl rfl ?_
      refine hp_get (k := 3) (pc' := 86) (v := (rI p 57 3)) rfl rfl rfl rfl rfl rfl ?_
      refine hp_s (pc' := 87) (st' := [.int 1, .int (rI p 57 3), .ref 57]) rfl rfl rfl ?_
      refine hp_z (pc' := 88) (e := (rI p 57 3) + 1) (st' := [.ref 57]) rfl rfl rfl ?_
      intro z8 hz8
      have ez8 := i_add hz8 (show (rI p 57 3).toInt = (rI p 57 3).toInt from rfl) (show (1 : Int32).toInt = 1 from by decide)
      refine hp_put (k := 3) (pc' := 91) rfl rfl rfl rfl rfl ?_
      intro p1 wp1 ep1
      have eB : p1 = hB1 p 2 := (by subst_vars; unfold hB1; first | rw [if_pos (by omega)] | rw [if_neg (by omega)])
      refine hp_s (pc' := 92) (st' := [.ref 57]) rfl rfl rfl ?_
      refine hp_s (pc' := 94) (st' := [.int 2, .ref 57]) rfl rfl rfl ?_
      refine hp_s (pc' := 95) (st' := [.int x, .int 2, .ref 57]) rfl rfl rfl ?_
      refine hp_s (pc' := 97) (st' := [.int v, .int x, .int 2, .ref 57]) rfl rfl rfl ?_
      refine hp_s (pc' := 98) (st' := [.int 1, .int v, .int x, .int 2, .ref 57]) rfl rfl rfl ?_
      refine hp_z (pc' := 99) (e := v + 1) (st' := [.int x, .int 2, .ref 57]) rfl rfl rfl ?_
      intro z9 hz9
      have ez9 := i_add hz9 (show v.toInt = v.toInt from rfl) (show (1 : Int32).toInt = 1 from by decide)
      refine hp_cv (r := 57) (o := 9) (kd := 1) (as := [.int 2, .int x, .int z9]) (rest := []) (pc' := 102) rfl rfl rfl rfl rfl rfl rfl rfl rfl (fun d1 => ?_)
      refine s_run2 hro (xi := x.toInt) rfl (vi := z9.toInt) rfl (by first | with_reducible assumption | omega | (rw [eB]; exact hKi_1 pre2) | (subst_vars; with_reducible (repeat (first | assumption | apply hKi_g)))) (by first | with_reducible assumption | omega | (rw [eB]; exact hKi_1 pre2) | (subst_vars; with_reducible (repeat (first | assumption | apply hKi_g)))) (by first | with_reducible assumption | omega | (rw [eB]; exact hKi_1 pre2) | (subst_vars; with_reducible (repeat (first | assumption | apply hKi_g)))) ?_
      intro y1 p2 h5 h6
      have qz := h5
      have qp := h6
      refine hp_id (st := [.int y1]) ?_
      refine hp_ri rfl rfl ?_
      first | (exact k0 _ _ (by first | (rw [qz, eB]; first | (rw [gO_1, gA_1]; rfl) | (rw [gA_1]; rfl) | rfl) | (rw [qp, eB]; first | (rw [gO_1]; rfl) | rfl)) (by first | (rw [qz, eB]; first | (rw [gO_1, gA_1]; rfl) | (rw [gA_1]; rfl) | rfl) | (rw [qp, eB]; first | (rw [gO_1]; rfl) | rfl))) | (exfalso; omega)
    ·
      refine hp_s (pc' := 71) (st' := [.ref 57]) rfl rfl rfl ?_
      refine hp_getr (k := 2) (w := .ref 59) (pc' := 74) rfl rfl rfl rfl rfl ?_
      refine hp_s (pc' := 75) (st' := [.ref 57, .ref 59]) rfl rfl rfl ?_
      refine hp_get (k := 3) (pc' := 78) (v := (rI p 57 3)) rfl rfl rfl rfl rfl rfl ?_
      refine hp_s (pc' := 80) (st' := [.int 2, .int (rI p 57 3), .ref 59]) rfl rfl rfl ?_
      refine hp_st (t := 100) rfl (.inl rfl) rfl rfl ?_
      intro p3 wp3 (p3a : 0 ≤ (rI p 57 3).toInt) (p3b : (rI p 57 3).toInt < 24) ep3
      refine hp_s (pc' := 82) (st' := [.ref 57]) rfl rfl rfl ?_
      refine hp_s (pc' := 83) (st' := [.ref 57, .ref 57]) rfl rfl rfl ?_
      refine hp_get (k := 3) (pc' := 86) (v := (rI p 57 3)) rfl rfl rfl rfl rfl (by rw [ep3, rI_o (by decide)]) ?_
      refine hp_s (pc' := 87) (st' := [.int 1, .int (rI p 57 3), .ref 57]) rfl rfl rfl ?_
      refine hp_z (pc' := 88) (e := (rI p 57 3) + 1) (st' := [.ref 57]) rfl rfl rfl ?_
      intro z10 hz10
      have ez10 := i_add hz10 (show (rI p 57 3).toInt = (rI p 57 3).toInt from rfl) (show (1 : Int32).toInt = 1 from by decide)
      refine hp_put (k := 3) (pc' := 91) rfl rfl rfl rfl rfl ?_
      intro p4 wp4 ep4
      have eB : p4 = hB1 p 2 := (by subst_vars; unfold hB1; first | rw [if_pos (by omega)] | rw [if_neg (by omega)])
      refine hp_s (pc' := 92) (st' := [.ref 57]) rfl rfl rfl ?_
      refine hp_s (pc' := 94) (st' := [.int 2, .ref 57]) rfl rfl rfl ?_
      refine hp_s (pc' := 95) (st' := [.int x, .int 2, .ref 57]) rfl rfl rfl ?_
      refine hp_s (pc' := 97) (st' := [.int v, .int x, .int 2, .ref 57]) rfl rfl rfl ?_
      refine hp_s (pc' := 98) (st' := [.int 1, .int v, .int x, .int 2, .ref 57]) rfl rfl rfl ?_
      refine hp_z (pc' := 99) (e := v + 1) (st' := [.int x, .int 2, .ref 57]) rfl rfl rfl ?_
      intro z11 hz11
      have ez11 := i_add hz11 (show v.toInt = v.toInt from rfl) (show (1 : Int32).toInt = 1 from by decide)
      refine hp_cv (r := 57) (o := 9) (kd := 1) (as := [.int 2, .int x, .int z11]) (rest := []) (pc' := 102) rfl rfl rfl rfl rfl rfl rfl rfl rfl (fun d2 => ?_)
      refine s_run2 hro (xi := x.toInt) rfl (vi := z11.toInt) rfl (by first | with_reducible assumption | omega | (rw [eB]; exact hKi_1 pre2) | (subst_vars; with_reducible (repeat (first | assumption | apply hKi_g)))) (by first | with_reducible assumption | omega | (rw [eB]; exact hKi_1 pre2) | (subst_vars; with_reducible (repeat (first | assumption | apply hKi_g)))) (by first | with_reducible assumption | omega | (rw [eB]; exact hKi_1 pre2) | (subst_vars; with_reducible (repeat (first | assumption | apply hKi_g)))) ?_
      intro y2 p5 h7 h8
      have qz := h7
      have qp := h8
      refine hp_id (st := [.int y2]) ?_
      refine hp_ri rfl rfl ?_
      first | (exact k0 _ _ (by first | (rw [qz, eB]; first | (rw [gO_1, gA_1]; rfl) | (rw [gA_1]; rfl) | rfl) | (rw [qp, eB]; first | (rw [gO_1]; rfl) | rfl)) (by first | (rw [qz, eB]; first | (rw [gO_1, gA_1]; rfl) | (rw [gA_1]; rfl) | rfl) | (rw [qp, eB]; first | (rw [gO_1]; rfl) | rfl))) | (exfalso; omega)
  ·
    refine hp_s (pc' := 8) (st' := [.int 0]) rfl rfl rfl ?_
    refine hp_ri rfl rfl ?_
    first | (exact k0 _ _ (by first | (rw [qz, eB]; first | (rw [gO_1, gA_1]; rfl) | (rw [gA_1]; rfl) | rfl) | (rw [qp, eB]; first | (rw [gO_1]; rfl) | rfl)) (by first | (rw [qz, eB]; first | (rw [gO_1, gA_1]; rfl) | (rw [gA_1]; rfl) | rfl) | (rw [qp, eB]; first | (rw [gO_1]; rfl) | rfl))) | (exfalso; omega)
theorem s_run81 {ro : List (List Int32)} {n d : Nat} {p : xH} {Q : Option Value → xH → Prop} {x : Int32} {xi : Int} {v : Int32} {vi : Int} (hro : jro ro) (hx : x.toInt = xi) (hv : v.toInt = vi) (pre0 : 0 ≤ vi) (pre1 : vi ≤ 35) (pre2 : hKi p) (k0 : ∀ z : Int32, ∀ p2 : xH, (z = aT (gO p) 4 (gA p) x - 1) → (p2 = hBg p (nT (gO p) 4)) → Q (some (.int z)) p2) : hP ro n d (9, 7, 1, 1, k116) 0 (lv_args 0 [.ref 57, .int 81, .int x, .int v]) [] p Q := by
  subst hx
  subst hv
  refine hp_id (ls := [(0, .ref 57), (1, .int 81), (2, .int x), (3, .int v)]) ?_
  refine hp_s (pc' := 1) (st' := [.int 81]) rfl rfl rfl ?_
  refine hp_go (pc' := 267) rfl rfl rfl ?_
  refine hp_s (pc' := 268) (st' := [.ref 57]) rfl rfl rfl ?_
  refine hp_s (pc' := 269) (st' := [.int 4, .ref 57]) rfl rfl rfl ?_
  refine hp_s (pc' := 270) (st' := [.int 3, .int 4, .ref 57]) rfl rfl rfl ?_
  refine hp_s (pc' := 271) (st' := [.int x, .int 3, .int 4, .ref 57]) rfl rfl rfl ?_
  refine hp_s (pc' := 272) (st' := [.int v, .int x, .int 3, .int 4, .ref 57]) rfl rfl rfl ?_
  refine hp_cv (r := 57) (o := 9) (kd := 1) (as := [.int 4, .int 3, .int x, .int v]) (rest := []) (pc' := 275) rfl rfl rfl rfl rfl rfl rfl rfl rfl (fun d1 => ?_)
  refine s_from4_3 hro (xi := x.toInt) rfl (vi := v.toInt) rfl (by first | with_reducible assumption | omega | (rw [eB]; exact hKi_1 pre2) | (subst_vars; with_reducible (repeat (first | assumption | apply hKi_g)))) (by first | with_reducible assumption | omega | (rw [eB]; exact hKi_1 pre2) | (subst_vars; with_reducible (repeat (first | assumption | apply hKi_g)))) (by first | with_reducible assumption | omega | (rw [eB]; exact hKi_1 pre2) | (subst_vars; with_reducible (repeat (first | assumption | apply hKi_g)))) ?_
  intro y1 p1 h1 h2
  refine hp_id (st := [.int y1]) ?_
  refine hp_s (pc' := 276) (st' := [.int 1, .int y1]) rfl rfl rfl ?_
  refine hp_z (pc' := 277) (e := y1 - 1) (st' := []) rfl rfl rfl ?_
  intro z1 hz1
  have ez1 := i_sub hz1 (show y1.toInt = y1.toInt from rfl) (show (1 : Int32).toInt = 1 from by decide)
  refine hp_ri rfl rfl ?_
  first | (exact k0 _ _ (by first | assumption | (subst_vars; first | rfl | (simp only [gO_g, gA_g, hBg_app]; done) | (simp only [gO_g, gA_g, hBg_app]; rfl))) (by first | assumption | (subst_vars; first | rfl | (simp only [gO_g, gA_g, hBg_app]; done) | (simp only [gO_g, gA_g, hBg_app]; rfl)))) | (exfalso; omega)
theorem s_from7_3 {ro : List (List Int32)} {n d : Nat} {p : xH} {Q : Option Value → xH → Prop} {x : Int32} {xi : Int} {v : Int32} {vi : Int} (hro : jro ro) (hx : x.toInt = xi) (hv : v.toInt = vi) (pre0 : 0 ≤ vi) (pre1 : vi ≤ 34) (pre2 : hKi p) (k0 : ∀ z : Int32, ∀ p2 : xH, (z = aT (gO p) 7 (gA p) x) → (p2 = hBg p (nT (gO p) 7)) → Q (some (.int z)) p2) : hP ro n d (9, 7, 1, 1, k115) 0 (lv_args 0 [.ref 57, .int 7, .int 3, .int x, .int v]) [] p Q := by
  subst hx
  subst hv
  refine hp_id (ls := [(0, .ref 57), (1, .int 7), (2, .int 3), (3, .int x), (4, .int v)]) ?_
  refine hp_s (pc' := 2) (st' := [.int v]) rfl rfl rfl ?_
  refine hp_s (pc' := 4) (st' := [.int 40, .int v]) rfl rfl rfl ?_
  refine hp_ic (pc' := 7) (t := 9) (a := v.toInt) (b := 40) rfl rfl rfl rfl (by decide) (fun (h1 : v.toInt ≤ 40) => ?_) (fun (h2 : ¬ (v.toInt ≤ 40)) => ?_)
  ·
    refine hp_s (pc' := 10) (st' := [.int 7]) rfl rfl rfl ?_
    refine hp_s (pc' := 12) (ls' := [(5, .int 7), (0, .ref 57), (1, .int 7), (2, .int 3), (3, .int x), (4, .int v)]) (st' := []) rfl rfl rfl ?_
    refine hp_s (pc' := 13) (st' := [.int 0]) rfl rfl rfl ?_
    refine hp_s (pc' := 15) (ls' := [(6, .int 0), (5, .int 7), (0, .ref 57), (1, .int 7), (2, .int 3), (3, .int x), (4, .int v)]) (st' := []) rfl rfl rfl ?_
    refine hp_s (pc' := 17) (st' := [.int 0]) rfl rfl rfl ?_
    refine hp_s (pc' := 19) (st' := [.int 8, .int 0]) rfl rfl rfl ?_
    refine hp_go (pc' := 22) rfl rfl rfl ?_
    refine hp_sta (k := 2) (pc' := 25) rfl rfl rfl ?_
    refine hp_s (pc' := 27) (st' := [.int 7, .retAddr 2]) rfl rfl rfl ?_
    refine hp_s (pc' := 28) (st' := [.int 4, .int 7, .retAddr 2]) rfl rfl rfl ?_
    refine hp_s (pc' := 29) (st' := [.int 28, .retAddr 2]) rfl rfl rfl ?_
    refine hp_s (pc' := 30) (st' := [.int 3, .int 28, .retAddr 2]) rfl rfl rfl ?_
    refine hp_s (pc' := 31) (st' := [.int 31, .retAddr 2]) rfl rfl rfl ?_
    refine hp_lds (v := 81) hro.2 rfl rfl (by decide +kernel) ?_
    intro g1a g1b
    refine hp_go (pc' := 49) rfl rfl rfl ?_
    refine hp_sta (k := 2) (pc' := 52) rfl rfl rfl ?_
    refine hp_s (pc' := 54) (st' := [.int 7, .retAddr 2]) rfl rfl rfl ?_
    refine hp_s (pc' := 55) (st' := [.int 4, .int 7, .retAddr 2]) rfl rfl rfl ?_
    refine hp_s (pc' := 56) (st' := [.int 28, .retAddr 2]) rfl rfl rfl ?_
    refine hp_s (pc' := 57) (st' := [.int 3, .int 28, .retAddr 2]) rfl rfl rfl ?_
    refine hp_s (pc' := 58) (st' := [.int 31, .retAddr 2]) rfl rfl rfl ?_
    refine hp_lds (v := 81) hro.2 rfl rfl (by decide +kernel) ?_
    intro g2a g2b
    refine hp_s (pc' := 61) (ls' := [(6, .int 81), (5, .int 7), (0, .ref 57), (1, .int 7), (2, .int 3), (3, .int x), (4, .int v)]) (st' := []) rfl rfl rfl ?_
    refine hp_s (pc' := 62) (st' := [.ref 57]) rfl rfl rfl ?_
    refine hp_get (k := 3) (pc' := 65) (v := (rI p 57 3)) rfl rfl rfl rfl rfl rfl ?_
    refine hp_s (pc' := 67) (st' := [.int 24, .int (rI p 57 3)]) rfl rfl rfl ?_
    refine hp_ic (pc' := 70) (t := 81) (a := (rI p 57 3).toInt) (b := 24) rfl rfl rfl rfl (by decide) (fun (h3 : 24 ≤ (rI p 57 3).toInt) => ?_) (fun (h4 : ¬ (24 ≤ (rI p 57 3).toInt)) => ?_)
    ·
      refine hp_s (pc' := 82) (st' := [.ref 57]) rfl rfl rfl ?_
      refine hp_s (pc' := 83) (st' := [.ref 57, .ref 57]) rfl rfl rfl ?_
      refine hp_get (k := 3) (pc' := 86) (v := (rI p 57 3)) rfl rfl rfl rfl rfl rfl ?_
      refine hp_s (pc' := 87) (st' := [.int 1, .int (rI p 57 3), .ref 57]) rfl rfl rfl ?_
      refine hp_z (pc' := 88) (e := (rI p 57 3) + 1) (st' := [.ref 57]) rfl rfl rfl ?_
      intro z5 hz5
      have ez5 := i_add hz5 (show (rI p 57 3).toInt = (rI p 57 3).toInt from rfl) (show (1 : Int32).toInt = 1 from by decide)
      refine hp_put (k := 3) (pc' := 91) rfl rfl rfl rfl rfl ?_
      intro p1 wp1 ep1
      have eB : p1 = hB1 p 81 := (by subst_vars; unfold hB1; first | rw [if_pos (by omega)] | rw [if_neg (by omega)])
      refine hp_s (pc' := 92) (st' := [.ref 57]) rfl rfl rfl ?_
      refine hp_s (pc' := 94) (st' := [.int 81, .ref 57]) rfl rfl rfl ?_
      refine hp_s (pc' := 95) (st' := [.int x, .int 81, .ref 57]) rfl rfl rfl ?_
      refine hp_s (pc' := 97) (st' := [.int v, .int x, .int 81, .ref 57]) rfl rfl rfl ?_
      refine hp_s (pc' := 98) (st' := [.int 1, .int v, .int x, .int 81, .ref 57]) rfl rfl rfl ?_
      refine hp_z (pc' := 99) (e := v + 1) (st' := [.int x, .int 81, .ref 57]) rfl rfl rfl ?_
      intro z6 hz6
      have ez6 := i_add hz6 (show v.toInt = v.toInt from rfl) (show (1 : Int32).toInt = 1 from by decide)
      refine hp_cv (r := 57) (o := 9) (kd := 1) (as := [.int 81, .int x, .int z6]) (rest := []) (pc' := 102) rfl rfl rfl rfl rfl rfl rfl rfl rfl (fun d1 => ?_)
      refine s_run81 hro (xi := x.toInt) rfl (vi := z6.toInt) rfl (by first | with_reducible assumption | omega | (rw [eB]; exact hKi_1 pre2) | (subst_vars; with_reducible (repeat (first | assumption | apply hKi_g)))) (by first | with_reducible assumption | omega | (rw [eB]; exact hKi_1 pre2) | (subst_vars; with_reducible (repeat (first | assumption | apply hKi_g)))) (by first | with_reducible assumption | omega | (rw [eB]; exact hKi_1 pre2) | (subst_vars; with_reducible (repeat (first | assumption | apply hKi_g)))) ?_
      intro y1 p2 h5 h6
      have qz := h5
      have qp := h6
      refine hp_id (st := [.int y1]) ?_
      refine hp_ri rfl rfl ?_
      first | (exact k0 _ _ (by first | (rw [qz, eB]; first | (rw [gO_1, gA_1]; rfl) | (rw [gA_1]; rfl) | rfl) | (rw [qp, eB]; first | (rw [gO_1]; rfl) | rfl)) (by first | (rw [qz, eB]; first | (rw [gO_1, gA_1]; rfl) | (rw [gA_1]; rfl) | rfl) | (rw [qp, eB]; first | (rw [gO_1]; rfl) | rfl))) | (exfalso; omega)
    ·
      refine hp_s (pc' := 71) (st' := [.ref 57]) rfl rfl rfl ?_
      refine hp_getr (k := 2) (w := .ref 59) (pc' := 74) rfl rfl rfl rfl rfl ?_
      refine hp_s (pc' := 75) (st' := [.ref 57, .ref 59]) rfl rfl rfl ?_
      refine hp_get (k := 3) (pc' := 78) (v := (rI p 57 3)) rfl rfl rfl rfl rfl rfl ?_
      refine hp_s (pc' := 80) (st' := [.int 81, .int (rI p 57 3), .ref 59]) rfl rfl rfl ?_
      refine hp_st (t := 100) rfl (.inl rfl) rfl rfl ?_
      intro p3 wp3 (p3a : 0 ≤ (rI p 57 3).toInt) (p3b : (rI p 57 3).toInt < 24) ep3
      refine hp_s (pc' := 82) (st' := [.ref 57]) rfl rfl rfl ?_
      refine hp_s (pc' := 83) (st' := [.ref 57, .ref 57]) rfl rfl rfl ?_
      refine hp_get (k := 3) (pc' := 86) (v := (rI p 57 3)) rfl rfl rfl rfl rfl (by rw [ep3, rI_o (by decide)]) ?_
      refine hp_s (pc' := 87) (st' := [.int 1, .int (rI p 57 3), .ref 57]) rfl rfl rfl ?_
      refine hp_z (pc' := 88) (e := (rI p 57 3) + 1) (st' := [.ref 57]) rfl rfl rfl ?_
      intro z7 hz7
      have ez7 := i_add hz7 (show (rI p 57 3).toInt = (rI p 57 3).toInt from rfl) (show (1 : Int32).toInt = 1 from by decide)
      refine hp_put (k := 3) (pc' := 91) rfl rfl rfl rfl rfl ?_
      intro p4 wp4 ep4
      have eB : p4 = hB1 p 81 := (by subst_vars; unfold hB1; first | rw [if_pos (by omega)] | rw [if_neg (by omega)])
      refine hp_s (pc' := 92) (st' := [.ref 57]) rfl rfl rfl ?_
      refine hp_s (pc' := 94) (st' := [.int 81, .ref 57]) rfl rfl rfl ?_
      refine hp_s (pc' := 95) (st' := [.int x, .int 81, .ref 57]) rfl rfl rfl ?_
      refine hp_s (pc' := 97) (st' := [.int v, .int x, .int 81, .ref 57]) rfl rfl rfl ?_
      refine hp_s (pc' := 98) (st' := [.int 1, .int v, .int x, .int 81, .ref 57]) rfl rfl rfl ?_
      refine hp_z (pc' := 99) (e := v + 1) (st' := [.int x, .int 81, .ref 57]) rfl rfl rfl ?_
      intro z8 hz8
      have ez8 := i_add hz8 (show v.toInt = v.toInt from rfl) (show (1 : Int32).toInt = 1 from by decide)
      refine hp_cv (r := 57) (o := 9) (kd := 1) (as := [.int 81, .int x, .int z8]) (rest := []) (pc' := 102) rfl rfl rfl rfl rfl rfl rfl rfl rfl (fun d2 => ?_)
      refine s_run81 hro (xi := x.toInt) rfl (vi := z8.toInt) rfl (by first | with_reducible assumption | omega | (rw [eB]; exact hKi_1 pre2) | (subst_vars; with_reducible (repeat (first | assumption | apply hKi_g)))) (by first | with_reducible assumption | omega | (rw [eB]; exact hKi_1 pre2) | (subst_vars; with_reducible (repeat (first | assumption | apply hKi_g)))) (by first | with_reducible assumption | omega | (rw [eB]; exact hKi_1 pre2) | (subst_vars; with_reducible (repeat (first | assumption | apply hKi_g)))) ?_
      intro y2 p5 h7 h8
      have qz := h7
      have qp := h8
      refine hp_id (st := [.int y2]) ?_
      refine hp_ri rfl rfl ?_
      first | (exact k0 _ _ (by first | (rw [qz, eB]; first | (rw [gO_1, gA_1]; rfl) | (rw [gA_1]; rfl) | rfl) | (rw [qp, eB]; first | (rw [gO_1]; rfl) | rfl)) (by first | (rw [qz, eB]; first | (rw [gO_1, gA_1]; rfl) | (rw [gA_1]; rfl) | rfl) | (rw [qp, eB]; first | (rw [gO_1]; rfl) | rfl))) | (exfalso; omega)
  ·
    refine hp_s (pc' := 8) (st' := [.int 0]) rfl rfl rfl ?_
    refine hp_ri rfl rfl ?_
    first | (exact k0 _ _ (by first | (rw [qz, eB]; first | (rw [gO_1, gA_1]; rfl) | (rw [gA_1]; rfl) | rfl) | (rw [qp, eB]; first | (rw [gO_1]; rfl) | rfl)) (by first | (rw [qz, eB]; first | (rw [gO_1, gA_1]; rfl) | (rw [gA_1]; rfl) | rfl) | (rw [qp, eB]; first | (rw [gO_1]; rfl) | rfl))) | (exfalso; omega)
theorem s_fromA_3 {ro : List (List Int32)} {n d : Nat} {p : xH} {Q : Option Value → xH → Prop} {kd : Int32} {kdi : Int} {x : Int32} {xi : Int} {v : Int32} {vi : Int} (hro : jro ro) (hk : kd.toInt = kdi) (hx : x.toInt = xi) (hv : v.toInt = vi) (pre0 : 0 ≤ kdi) (pre1 : kdi < 8) (pre2 : 0 ≤ vi) (pre3 : vi ≤ 34) (pre4 : hKi p) (k0 : ∀ z : Int32, ∀ p2 : xH, (z = aT (gO p) kdi (gA p) x) → (p2 = hBg p (nT (gO p) kdi)) → Q (some (.int z)) p2) : hP ro n d (9, 7, 1, 1, k115) 0 (lv_args 0 [.ref 57, .int kd, .int 3, .int x, .int v]) [] p Q := by
  have h8 : kdi = 0 ∨ kdi = 1 ∨ kdi = 2 ∨ kdi = 3 ∨ kdi = 4 ∨ kdi = 5 ∨ kdi = 6 ∨ kdi = 7 := by omega
  rcases h8 with e | e | e | e | e | e | e | e
  · have e2 : kd = 0 := Int32.toInt_inj.mp (by rw [hk, e]; decide)
    subst e2; subst e; exact s_from0_3 hro hx hv pre2 (by omega) pre4 k0
  · have e2 : kd = 1 := Int32.toInt_inj.mp (by rw [hk, e]; decide)
    subst e2; subst e; exact s_from1_3 hro hx hv pre2 (by omega) pre4 k0
  · have e2 : kd = 2 := Int32.toInt_inj.mp (by rw [hk, e]; decide)
    subst e2; subst e; exact s_from2_3 hro hx hv pre2 (by omega) pre4 k0
  · have e2 : kd = 3 := Int32.toInt_inj.mp (by rw [hk, e]; decide)
    subst e2; subst e; exact s_from3_3 hro hx hv pre2 (by omega) pre4 k0
  · have e2 : kd = 4 := Int32.toInt_inj.mp (by rw [hk, e]; decide)
    subst e2; subst e; exact s_from4_3 hro hx hv pre2 (by omega) pre4 k0
  · have e2 : kd = 5 := Int32.toInt_inj.mp (by rw [hk, e]; decide)
    subst e2; subst e; exact s_from5_3 hro hx hv pre2 (by omega) pre4 k0
  · have e2 : kd = 6 := Int32.toInt_inj.mp (by rw [hk, e]; decide)
    subst e2; subst e; exact s_from6_3 hro hx hv pre2 (by omega) pre4 k0
  · have e2 : kd = 7 := Int32.toInt_inj.mp (by rw [hk, e]; decide)
    subst e2; subst e; exact s_from7_3 hro hx hv pre2 (by omega) pre4 k0
theorem s_own3 {ro : List (List Int32)} {n d : Nat} {p : xH} {Q : Option Value → xH → Prop} {x : Int32} {xi : Int} {v : Int32} {vi : Int} (hro : jro ro) (hx : x.toInt = xi) (hv : v.toInt = vi) (pre0 : 0 ≤ vi) (pre1 : vi ≤ 34) (pre2 : hKi p) (k0 : ∀ z : Int32, ∀ p2 : xH, (z = aT (gO p) (gO p) (gA p) x) → (p2 = hBg p (nT (gO p) (gO p))) → Q (some (.int z)) p2) : hP ro n d (9, 4, 1, 1, k114) 0 (lv_args 0 [.ref 57, .int 3, .int x, .int v]) [] p Q := by
  subst hx
  subst hv
  refine hp_id (ls := [(0, .ref 57), (1, .int 3), (2, .int x), (3, .int v)]) ?_
  refine hp_s (pc' := 1) (st' := [.ref 57]) rfl rfl rfl ?_
  refine hp_s (pc' := 2) (st' := [.ref 57, .ref 57]) rfl rfl rfl ?_
  refine hp_getr (k := 0) (w := .ref 58) (pc' := 5) rfl rfl rfl rfl rfl ?_
  refine hp_s (pc' := 6) (st' := [.ref 57, .ref 58, .ref 57]) rfl rfl rfl ?_
  refine hp_get (k := 4) (pc' := 9) (v := (rI p 57 4)) rfl rfl rfl rfl rfl rfl ?_
  refine hp_ld (t := 100) (v := (rI p 58 (rI p 57 4).toInt.toNat)) rfl (.inl rfl) rfl rfl rfl ?_
  intro (g1a : 0 ≤ (rI p 57 4).toInt) (g1b : (rI p 57 4).toInt < 50)
  refine hp_s (pc' := 11) (st' := [.int 3, .int ((rI p 58 (rI p 57 4).toInt.toNat)), .ref 57]) rfl rfl rfl ?_
  refine hp_s (pc' := 12) (st' := [.int x, .int 3, .int ((rI p 58 (rI p 57 4).toInt.toNat)), .ref 57]) rfl rfl rfl ?_
  refine hp_s (pc' := 13) (st' := [.int v, .int x, .int 3, .int ((rI p 58 (rI p 57 4).toInt.toNat)), .ref 57]) rfl rfl rfl ?_
  refine hp_cv (r := 57) (o := 9) (kd := 1) (as := [.int ((rI p 58 (rI p 57 4).toInt.toNat)), .int 3, .int x, .int v]) (rest := []) (pc' := 16) rfl rfl rfl rfl rfl rfl rfl rfl rfl (fun d1 => ?_)
  refine s_fromA_3 hro (kdi := ((rI p 58 (rI p 57 4).toInt.toNat)).toInt) rfl (xi := x.toInt) rfl (vi := v.toInt) rfl (by first | with_reducible assumption | omega | exact (pre2 _).1 | exact (pre2 _).2) (by first | with_reducible assumption | omega | exact (pre2 _).1 | exact (pre2 _).2) (by first | with_reducible assumption | omega | exact (pre2 _).1 | exact (pre2 _).2) (by first | with_reducible assumption | omega | exact (pre2 _).1 | exact (pre2 _).2) (by first | with_reducible assumption | omega | exact (pre2 _).1 | exact (pre2 _).2) ?_
  intro y1 p1 h1 h2
  refine hp_id (st := [.int y1]) ?_
  refine hp_ri rfl rfl ?_
  first | (exact k0 _ _ (by assumption) (by assumption)) | (exfalso; omega)
