/-! contracts of methods, walked -/
/-- people from a row: may the c-th come; how many come -/
def hOk (r : Nat) (p0 : xH) (x i s P : Int) (c : Nat) : Prop := i + 2 * c + 1 < s ∧ P + c < 7 ∧ 0 ≤ (rJ p0 r (60 * x.toNat + (i.toNat + 2 * c))).toInt ∧ (rJ p0 r (60 * x.toNat + (i.toNat + 2 * c))).toInt ≤ 63 ∧ 0 ≤ (rJ p0 r (60 * x.toNat + (i.toNat + 2 * c + 1))).toInt ∧ (rJ p0 r (60 * x.toNat + (i.toNat + 2 * c + 1))).toInt ≤ 63
def hCnt (r : Nat) (p0 : xH) (x i s P : Int) (w : Int) (c : Nat) : Prop := (c : Int) ≤ w ∧ (∀ k, k < c → hOk r p0 x i s P k) ∧ ((c : Int) = w ∨ ¬ hOk r p0 x i s P c)
theorem hCnt_one {r : Nat} {p0 : xH} {x i s P w : Int} {c c' : Nat} (h : hCnt r p0 x i s P w c) (k : hCnt r p0 x i s P w c') : c = c' := by
  obtain ⟨h1, h2, h3⟩ := h
  obtain ⟨k1, k2, k3⟩ := k
  rcases Nat.lt_trichotomy c c' with z | z | z
  · rcases h3 with h3 | h3
    · omega
    · exact absurd (k2 c z) h3
  · exact z
  · rcases k3 with k3 | k3
    · omega
    · exact absurd (h2 c' z) k3
abbrev T_px : List (Nat × Nat) := [(14, 9999), (15, 9999), (13, 7)]
abbrev T_pm : List (Nat × Nat) := [(67, 9999), (66, 6)]
/-- c of them have come -/
def hPx (p0 p : xH) (x i : Int) (S c : Nat) : Prop := hNt T_px p0 p ∧ (rI p 13 7).toInt = S + c ∧ (∀ j, rV p 14 j = if S ≤ j ∧ j < S + c then .int (rJ p0 65 (60 * x.toNat + (i.toNat + 2 * (j - S)))).toInt32 else rV p0 14 j) ∧ (∀ j, rV p 15 j = if S ≤ j ∧ j < S + c then .int (rJ p0 65 (60 * x.toNat + (i.toNat + 2 * (j - S) + 1))).toInt32 else rV p0 15 j)
def hPm (p0 p : xH) (x i : Int) (S c : Nat) : Prop := hNt T_pm p0 p ∧ (rI p 66 6).toInt = S + c ∧ (∀ j, j < 7 → rV p 67 j = if S ≤ j ∧ j < S + c then .int (rJ p0 99 (60 * x.toNat + (i.toNat + 2 * (j - S)))).toInt32 else rV p0 67 j) ∧ (∀ j, j < 7 → rV p 67 (7 + j) = if S ≤ j ∧ j < S + c then .int (rJ p0 99 (60 * x.toNat + (i.toNat + 2 * (j - S) + 1))).toInt32 else rV p0 67 (7 + j)) ∧ (∀ j, j < 7 → rV p 67 (14 + j) = if S ≤ j ∧ j < S + c then .int 0 else rV p0 67 (14 + j)) ∧ ∀ j, 21 ≤ j → rV p 67 j = rV p0 67 j
theorem hPx_0 {p0 : xH} {x i : Int} {S : Nat} (h : (rI p0 13 7).toInt = S) : hPx p0 p0 x i S 0 := ⟨hNt.refl _ _, by omega, fun j => by rw [if_neg (by omega)], fun j => by rw [if_neg (by omega)]⟩
theorem hPm_0 {p0 : xH} {x i : Int} {S : Nat} (h : (rI p0 66 6).toInt = S) : hPm p0 p0 x i S 0 := ⟨hNt.refl _ _, by omega, fun j _ => by rw [if_neg (by omega)], fun j _ => by rw [if_neg (by omega)], fun j _ => by rw [if_neg (by omega)], fun j _ => rfl⟩
theorem hPx_s {p0 p p2 : xH} {x i : Int} {S c : Nat} (h : hPx p0 p x i S c) (hw : hW p) (hc : S + c < 7) {u v : Int32} (hu : u = (rJ p0 65 (60 * x.toNat + (i.toNat + 2 * c))).toInt32) (hv : v = (rJ p0 65 (60 * x.toNat + (i.toNat + 2 * c + 1))).toInt32) (e : p2 = wV (wV (wV p 14 (rI p 13 7).toInt.toNat (.int u)) 15 (rI p 13 7).toInt.toNat (.int v)) 13 7 (.int (rI p 13 7 + 1))) : hPx p0 p2 x i S (c + 1) := by
  obtain ⟨h1, h2, h3, h4⟩ := h
  have hS : (rI p 13 7).toInt.toNat = S + c := by omega
  rw [hS] at e
  have w1 : hW (wV p 14 (S + c) (.int u)) := hW_wV hw rfl
  have w2 : hW (wV (wV p 14 (S + c) (.int u)) 15 (S + c) (.int v)) := hW_wV w1 rfl
  refine ⟨by rw [e]; exact ((h1.w rfl).w rfl).w rfl, ?_, fun j => ?_, fun j => ?_⟩
  · have q : rI p2 13 7 = rI p 13 7 + 1 := by rw [e, rI_eq w2 (by decide)]
    have := i_add q rfl (show (1 : Int32).toInt = 1 from by decide)
    omega
  · rw [e, rV_ne (fun z => absurd z (by decide)), rV_ne (fun z => absurd z (by decide)), rV_w hw (by show _ < 7; omega), h3 j]
    exact if_fillf (f := fun j => .int (rJ p0 65 (60 * x.toNat + (i.toNat + 2 * (j - S)))).toInt32) rfl (by omega) (by omega) (by rw [hu, show S + c - S = c by omega])
  · rw [e, rV_ne (fun z => absurd z (by decide)), rV_w w1 (by show _ < 7; omega), rV_ne (fun z => absurd z (by decide)), h4 j]
    exact if_fillf (f := fun j => .int (rJ p0 65 (60 * x.toNat + (i.toNat + 2 * (j - S) + 1))).toInt32) rfl (by omega) (by omega) (by rw [hv, show S + c - S = c by omega])
theorem hPm_s {p0 p p2 : xH} {x i : Int} {S c : Nat} (h : hPm p0 p x i S c) (hw : hW p) (hc : S + c < 7) {u v : Int32} (hu : u = (rJ p0 99 (60 * x.toNat + (i.toNat + 2 * c))).toInt32) (hv : v = (rJ p0 99 (60 * x.toNat + (i.toNat + 2 * c + 1))).toInt32) (e : p2 = wV (wV (wV (wV p 67 (rI p 66 6).toInt.toNat (.int u)) 67 (7 + (rI p 66 6).toInt).toNat (.int v)) 67 (14 + (rI p 66 6).toInt).toNat (.int 0)) 66 6 (.int (rI p 66 6 + 1))) : hPm p0 p2 x i S (c + 1) := by
  obtain ⟨h1, h2, h3, h4, h5, h6⟩ := h
  rw [show (rI p 66 6).toInt.toNat = S + c by omega, show (7 + (rI p 66 6).toInt).toNat = 7 + (S + c) by omega, show (14 + (rI p 66 6).toInt).toNat = 14 + (S + c) by omega] at e
  have w1 : hW (wV p 67 (S + c) (.int u)) := hW_wV hw rfl
  have w2 : hW (wV (wV p 67 (S + c) (.int u)) 67 (7 + (S + c)) (.int v)) := hW_wV w1 rfl
  have w3 : hW (wV (wV (wV p 67 (S + c) (.int u)) 67 (7 + (S + c)) (.int v)) 67 (14 + (S + c)) (.int 0)) := hW_wV w2 rfl
  have r : ∀ j, rV p2 67 j = if j = 14 + (S + c) then .int 0 else if j = 7 + (S + c) then .int v else if j = S + c then .int u else rV p 67 j := fun j => by
    rw [e, rV_ne (fun z => absurd z (by decide)), rV_w w2 (by show _ < 23; omega), rV_w w1 (by show _ < 23; omega), rV_w hw (by show _ < 23; omega)]
  refine ⟨by rw [e]; exact (((h1.w rfl).w rfl).w rfl).w rfl, ?_, fun j hj => ?_, fun j hj => ?_, fun j hj => ?_, fun j hj => ?_⟩
  · have q : rI p2 66 6 = rI p 66 6 + 1 := by rw [e, rI_eq w3 (by decide)]
    have := i_add q rfl (show (1 : Int32).toInt = 1 from by decide)
    omega
  · rw [r, if_neg (by omega), if_neg (by omega), h3 j hj]
    exact if_fillf (f := fun j => .int (rJ p0 99 (60 * x.toNat + (i.toNat + 2 * (j - S)))).toInt32) rfl (by omega) (by omega) (by rw [hu, show S + c - S = c by omega])
  · rw [r, if_neg (by omega)]
    by_cases hj2 : j = S + c
    · subst hj2
      rw [if_pos rfl, if_pos (by omega), hv, show S + c - S = c by omega]
    · rw [if_neg (by omega), if_neg (by omega), h4 j hj]
      by_cases hj3 : S ≤ j ∧ j < S + c
      · rw [if_pos hj3, if_pos (by omega)]
      · rw [if_neg hj3, if_neg (by omega)]
  · rw [r]
    by_cases hj2 : j = S + c
    · subst hj2
      rw [if_pos rfl, if_pos (by omega)]
    · rw [if_neg (by omega), if_neg (by omega), if_neg (by omega), h5 j hj]
      by_cases hj3 : S ≤ j ∧ j < S + c
      · rw [if_pos hj3, if_pos (by omega)]
      · rw [if_neg hj3, if_neg (by omega)]
  · rw [r, if_neg (by omega), if_neg (by omega), if_neg (by omega), h6 j hj]
theorem s_isParts {ro : List (List Int32)} {n d : Nat} {p : xH} {Q : Option Value → xH → Prop} {x : Int64} {xi : Int} (hx : x.toInt = xi)  (k0 : (0 ≤ xi) → (xi ≤ 63) → Q (some (.int (1))) p) (k1 : (¬ (0 ≤ xi ∧ xi ≤ 63)) → Q (some (.int (0))) p) : hP ro n d (11, 2, 0, 2, k172) 0 (lv_args 0 [.long x]) [] p Q := by
  subst hx
  refine hp_id (ls := [(0, .long x)]) ?_
  refine hp_s (pc' := 1) (st' := [.long x]) rfl rfl rfl ?_
  refine hp_s (pc' := 2) (st' := [.long 0, .long x]) rfl rfl rfl ?_
  refine hp_lc (pc' := 6) (t := 18) (a := x.toInt) (b := 0) rfl rfl rfl rfl rfl (by decide) (fun (h1 : x.toInt < 0) => ?_) (fun (h2 : ¬ (x.toInt < 0)) => ?_)
  ·
    refine hp_s (pc' := 19) (st' := [.int 0]) rfl rfl rfl ?_
    refine hp_rb rfl rfl (fun _ => ?_)
    first | (exact k1 (by first | assumption | omega)) | (exfalso; omega)
  ·
    refine hp_s (pc' := 7) (st' := [.long x]) rfl rfl rfl ?_
    refine hp_s (pc' := 10) (st' := [.long 63, .long x]) rfl rfl rfl ?_
    refine hp_lc (pc' := 14) (t := 18) (a := x.toInt) (b := 63) rfl rfl rfl rfl rfl (by decide) (fun (h3 : 63 < x.toInt) => ?_) (fun (h4 : ¬ (63 < x.toInt)) => ?_)
    ·
      refine hp_s (pc' := 19) (st' := [.int 0]) rfl rfl rfl ?_
      refine hp_rb rfl rfl (fun _ => ?_)
      first | (exact k1 (by first | assumption | omega)) | (exfalso; omega)
    ·
      refine hp_s (pc' := 15) (st' := [.int 1]) rfl rfl rfl ?_
      refine hp_go (pc' := 19) rfl rfl rfl ?_
      refine hp_rb rfl rfl (fun _ => ?_)
      first | (exact k0 (by first | assumption | omega) (by first | assumption | omega)) | (exfalso; omega)
theorem s_come {ro : List (List Int32)} {n d : Nat} {p : xH} {Q : Option Value → xH → Prop} {x : Int32} {xi : Int} {y : Int32} {yi : Int} (hx : x.toInt = xi) (hy : y.toInt = yi)  (k0 : (7 ≤ (rI p 13 7).toInt) → Q (some (.int (-3))) p) (k1 : ∀ z : Int32, ∀ p2 : xH, p2 = (wV (wV (wV p 14 ((rI p 13 7).toInt.toNat) (.int x)) 15 ((rI p 13 7).toInt.toNat) (.int y)) 13 7 (.int (rI p 13 7 + 1))) → (0 ≤ (rI p 13 7).toInt) → ((rI p 13 7).toInt < 7) → (z.toInt = (rI p 13 7).toInt) → Q (some (.int z)) p2) : hP ro n d (1, 3, 1, 1, k9) 0 (lv_args 0 [.ref 13, .int x, .int y]) [] p Q := by
  subst hx
  subst hy
  refine hp_id (ls := [(0, .ref 13), (1, .int x), (2, .int y)]) ?_
  refine hp_s (pc' := 1) (st' := [.ref 13]) rfl rfl rfl ?_
  refine hp_get (k := 7) (pc' := 4) (v := (rI p 13 7)) rfl rfl rfl rfl rfl rfl ?_
  refine hp_s (pc' := 6) (st' := [.int 7, .int (rI p 13 7)]) rfl rfl rfl ?_
  refine hp_ic (pc' := 9) (t := 12) (a := (rI p 13 7).toInt) (b := 7) rfl rfl rfl rfl (by decide) (fun (h1 : (rI p 13 7).toInt < 7) => ?_) (fun (h2 : ¬ ((rI p 13 7).toInt < 7)) => ?_)
  ·
    refine hp_s (pc' := 13) (st' := [.ref 13]) rfl rfl rfl ?_
    refine hp_getr (k := 1) (w := .ref 14) (pc' := 16) rfl rfl rfl rfl rfl ?_
    refine hp_s (pc' := 17) (st' := [.ref 13, .ref 14]) rfl rfl rfl ?_
    refine hp_get (k := 7) (pc' := 20) (v := (rI p 13 7)) rfl rfl rfl rfl rfl rfl ?_
    refine hp_s (pc' := 21) (st' := [.int x, .int (rI p 13 7), .ref 14]) rfl rfl rfl ?_
    refine hp_st (t := 100) rfl (.inl rfl) rfl rfl ?_
    intro p1 wp1 (p1a : 0 ≤ (rI p 13 7).toInt) (p1b : (rI p 13 7).toInt < 7) ep1
    refine hp_s (pc' := 23) (st' := [.ref 13]) rfl rfl rfl ?_
    refine hp_getr (k := 2) (w := .ref 15) (pc' := 26) rfl rfl rfl rfl rfl ?_
    refine hp_s (pc' := 27) (st' := [.ref 13, .ref 15]) rfl rfl rfl ?_
    refine hp_get (k := 7) (pc' := 30) (v := (rI p 13 7)) rfl rfl rfl rfl rfl (by rw [ep1, rI_o (by decide)]) ?_
    refine hp_s (pc' := 31) (st' := [.int y, .int (rI p 13 7), .ref 15]) rfl rfl rfl ?_
    refine hp_st (t := 100) rfl (.inl rfl) rfl rfl ?_
    intro p2 wp2 (p2a : 0 ≤ (rI p 13 7).toInt) (p2b : (rI p 13 7).toInt < 7) ep2
    refine hp_s (pc' := 33) (st' := [.ref 13]) rfl rfl rfl ?_
    refine hp_s (pc' := 34) (st' := [.ref 13, .ref 13]) rfl rfl rfl ?_
    refine hp_get (k := 7) (pc' := 37) (v := (rI p 13 7)) rfl rfl rfl rfl rfl (by rw [ep2, rI_o (by decide), ep1, rI_o (by decide)]) ?_
    refine hp_s (pc' := 38) (st' := [.int 1, .int (rI p 13 7), .ref 13]) rfl rfl rfl ?_
    refine hp_z (pc' := 39) (e := (rI p 13 7) + 1) (st' := [.ref 13]) rfl rfl rfl ?_
    intro z1 hz1
    have ez1 := i_add hz1 (show (rI p 13 7).toInt = (rI p 13 7).toInt from rfl) (show (1 : Int32).toInt = 1 from by decide)
    refine hp_put (k := 7) (pc' := 42) rfl rfl rfl rfl rfl ?_
    intro p3 wp3 ep3
    refine hp_s (pc' := 43) (st' := [.ref 13]) rfl rfl rfl ?_
    refine hp_get (k := 7) (pc' := 46) (v := z1) rfl rfl rfl rfl rfl (by rw [ep3, rI_eq wp3 (by decide)]) ?_
    refine hp_s (pc' := 47) (st' := [.int 1, .int z1]) rfl rfl rfl ?_
    refine hp_z (pc' := 48) (e := z1 - 1) (st' := []) rfl rfl rfl ?_
    intro z2 hz2
    have ez2 := i_sub hz2 (show z1.toInt = z1.toInt from rfl) (show (1 : Int32).toInt = 1 from by decide)
    refine hp_ri rfl rfl ?_
    first | (exact k0 (by first | assumption | omega)) | (exact k1 _ _ (by subst_vars; rfl) (by first | assumption | omega) (by first | assumption | omega) (by first | assumption | omega)) | (exfalso; omega)
  ·
    refine hp_s (pc' := 11) (st' := [.int (-3)]) rfl rfl rfl ?_
    refine hp_ri rfl rfl ?_
    first | (exact k0 (by first | assumption | omega)) | (exact k1 _ _ (by subst_vars; rfl) (by first | assumption | omega) (by first | assumption | omega) (by first | assumption | omega)) | (exfalso; omega)
theorem X_person {ro : List (List Int32)} {n d : Nat} {p : xH} {Q : Option Value → xH → Prop} {x : Int32} {xi : Int} {y : Int32} {yi : Int} (hx : x.toInt = xi) (hy : y.toInt = yi)  (k0 : (¬ (0 ≤ xi ∧ xi ≤ 63 ∧ 0 ≤ yi ∧ yi ≤ 63)) → Q (some (.int (-1))) p) (k1 : (0 ≤ xi) → (xi ≤ 63) → (0 ≤ yi) → (yi ≤ 63) → (7 ≤ (rI p 13 7).toInt) → Q (some (.int (-3))) p) (k2 : ∀ z : Int32, ∀ p2 : xH, p2 = (wV (wV (wV p 14 ((rI p 13 7).toInt.toNat) (.int x)) 15 ((rI p 13 7).toInt.toNat) (.int y)) 13 7 (.int (rI p 13 7 + 1))) → (0 ≤ xi) → (xi ≤ 63) → (0 ≤ yi) → (yi ≤ 63) → (0 ≤ (rI p 13 7).toInt) → ((rI p 13 7).toInt < 7) → (z.toInt = (rI p 13 7).toInt) → Q (some (.int z)) p2) : hP ro n d (11, 3, 1, 1, k125) 0 (lv_args 0 [.ref 0, .int x, .int y]) [] p Q := by
  subst hx
  subst hy
  refine hp_id (ls := [(0, .ref 0), (1, .int x), (2, .int y)]) ?_
  refine hp_s (pc' := 1) (st' := [.int x]) rfl rfl rfl ?_
  refine hp_i2l (pc' := 2) rfl rfl ?_
  intro z1 hz1 ez1
  refine hp_cs (kd := 0) (as := [.long z1]) (rest := []) (pc' := 5) rfl rfl rfl rfl rfl rfl rfl (fun d1 => ?_)
  refine s_isParts (xi := x.toInt) ez1 ?_ ?_
  ·
    intro h1 h2
    refine hp_id (st := [.int 1]) ?_
    refine hp_go (pc' := 8) rfl rfl rfl ?_
    refine hp_s (pc' := 9) (st' := [.int y]) rfl rfl rfl ?_
    refine hp_i2l (pc' := 10) rfl rfl ?_
    intro z2 hz2 ez2
    refine hp_cs (kd := 0) (as := [.long z2]) (rest := []) (pc' := 13) rfl rfl rfl rfl rfl rfl rfl (fun d2 => ?_)
    refine s_isParts (xi := y.toInt) ez2 ?_ ?_
    ·
      intro h3 h4
      refine hp_id (st := [.int 1]) ?_
      refine hp_go (pc' := 18) rfl rfl rfl ?_
      refine hp_s (pc' := 19) (st' := [.ref 0]) rfl rfl rfl ?_
      refine hp_getr (k := 4) (w := .ref 13) (pc' := 22) rfl rfl rfl rfl rfl ?_
      refine hp_s (pc' := 23) (st' := [.int x, .ref 13]) rfl rfl rfl ?_
      refine hp_s (pc' := 24) (st' := [.int y, .int x, .ref 13]) rfl rfl rfl ?_
      refine hp_cv (r := 13) (o := 1) (kd := 1) (as := [.int x, .int y]) (rest := []) (pc' := 27) rfl rfl rfl rfl rfl rfl rfl rfl rfl (fun d3 => ?_)
      refine s_come (xi := x.toInt) rfl (yi := y.toInt) rfl ?_ ?_
      ·
        intro h5
        refine hp_id (st := [.int (-3)]) ?_
        refine hp_ri rfl rfl ?_
        first | (exact k1 (by first | assumption | omega) (by first | assumption | omega) (by first | assumption | omega) (by first | assumption | omega) (by first | assumption | omega)) | (exact k2 _ _ (by subst_vars; rfl) (by first | assumption | omega) (by first | assumption | omega) (by first | assumption | omega) (by first | assumption | omega) (by first | assumption | omega) (by first | assumption | omega) (by first | assumption | omega)) | (exfalso; omega)
      ·
        intro y1 p1 ep1 h6 h7 h8
        refine hp_id (st := [.int y1]) ?_
        refine hp_ri rfl rfl ?_
        first | (exact k0 (by first | assumption | omega)) | (exact k1 (by first | assumption | omega) (by first | assumption | omega) (by first | assumption | omega) (by first | assumption | omega) (by first | assumption | omega)) | (exact k2 _ _ (by subst_vars; rfl) (by first | assumption | omega) (by first | assumption | omega) (by first | assumption | omega) (by first | assumption | omega) (by first | assumption | omega) (by first | assumption | omega) (by first | assumption | omega)) | (exfalso; omega)
    ·
      intro h9
      refine hp_id (st := [.int 0]) ?_
      refine hp_go (pc' := 16) rfl rfl rfl ?_
      refine hp_s (pc' := 17) (st' := [.int (-1)]) rfl rfl rfl ?_
      refine hp_ri rfl rfl ?_
      first | (exact k0 (by first | assumption | omega)) | (exact k2 _ _ (by subst_vars; rfl) (by first | assumption | omega) (by first | assumption | omega) (by first | assumption | omega) (by first | assumption | omega) (by first | assumption | omega) (by first | assumption | omega) (by first | assumption | omega)) | (exfalso; omega)
  ·
    intro h10
    refine hp_id (st := [.int 0]) ?_
    refine hp_go (pc' := 16) rfl rfl rfl ?_
    refine hp_s (pc' := 17) (st' := [.int (-1)]) rfl rfl rfl ?_
    refine hp_ri rfl rfl ?_
    first | (exact k0 (by first | assumption | omega)) | (exact k2 _ _ (by subst_vars; rfl) (by first | assumption | omega) (by first | assumption | omega) (by first | assumption | omega) (by first | assumption | omega) (by first | assumption | omega) (by first | assumption | omega) (by first | assumption | omega)) | (exfalso; omega)
theorem s_areLooks {ro : List (List Int32)} {n d : Nat} {p : xH} {Q : Option Value → xH → Prop} {x : Int64} {xi : Int} (hx : x.toInt = xi)  (k0 : (0 ≤ xi) → (xi ≤ 63) → Q (some (.int (1))) p) (k1 : (¬ (0 ≤ xi ∧ xi ≤ 63)) → Q (some (.int (0))) p) : hP ro n d (12, 2, 0, 2, k183) 0 (lv_args 0 [.long x]) [] p Q := by
  subst hx
  refine hp_id (ls := [(0, .long x)]) ?_
  refine hp_s (pc' := 1) (st' := [.long x]) rfl rfl rfl ?_
  refine hp_s (pc' := 2) (st' := [.long 0, .long x]) rfl rfl rfl ?_
  refine hp_s (pc' := 5) (st' := [.long 63, .long 0, .long x]) rfl rfl rfl ?_
  refine hp_cs (kd := 0) (as := [.long x, .long 0, .long 63]) (rest := []) (pc' := 8) rfl rfl rfl rfl rfl rfl rfl (fun d1 => ?_)
  refine s_within (vi := x.toInt) rfl (ai := 0) (by decide) (bi := 63) (by decide) ?_ ?_
  ·
    intro h1 h2
    refine hp_id (st := [.int 1]) ?_
    refine hp_rb rfl rfl (fun _ => ?_)
    first | (exact k0 (by first | assumption | omega) (by first | assumption | omega)) | (exfalso; omega)
  ·
    intro h3
    refine hp_id (st := [.int 0]) ?_
    refine hp_rb rfl rfl (fun _ => ?_)
    first | (exact k1 (by first | assumption | omega)) | (exfalso; omega)
theorem s_adds {ro : List (List Int32)} {n d : Nat} {p : xH} {Q : Option Value → xH → Prop} {x : Int32} {xi : Int} {y : Int32} {yi : Int} (hx : x.toInt = xi) (hy : y.toInt = yi) (pre0 : 0 ≤ (rI p 66 6).toInt) (pre1 : (rI p 66 6).toInt < 7) (k0 : ∀ p2 : xH, p2 = (wV (wV (wV (wV p 67 ((rI p 66 6).toInt.toNat) (.int x)) 67 ((7 + (rI p 66 6).toInt).toNat) (.int y)) 67 ((14 + (rI p 66 6).toInt).toNat) (.int 0)) 66 6 (.int (rI p 66 6 + 1))) → ((rI p2 66 6).toInt = (rI p 66 6).toInt + 1) → Q none p2) : hP ro n d (12, 3, 1, 0, k184) 0 (lv_args 0 [.ref 66, .int x, .int y]) [] p Q := by
  subst hx
  subst hy
  refine hp_id (ls := [(0, .ref 66), (1, .int x), (2, .int y)]) ?_
  refine hp_s (pc' := 1) (st' := [.ref 66]) rfl rfl rfl ?_
  refine hp_getr (k := 0) (w := .ref 67) (pc' := 4) rfl rfl rfl rfl rfl ?_
  refine hp_s (pc' := 5) (st' := [.ref 66, .ref 67]) rfl rfl rfl ?_
  refine hp_get (k := 6) (pc' := 8) (v := (rI p 66 6)) rfl rfl rfl rfl rfl rfl ?_
  refine hp_s (pc' := 9) (st' := [.int x, .int (rI p 66 6), .ref 67]) rfl rfl rfl ?_
  refine hp_st (t := 100) rfl (.inl rfl) rfl rfl ?_
  intro p1 wp1 (p1a : 0 ≤ (rI p 66 6).toInt) (p1b : (rI p 66 6).toInt < 23) ep1
  refine hp_s (pc' := 11) (st' := [.ref 66]) rfl rfl rfl ?_
  refine hp_getr (k := 0) (w := .ref 67) (pc' := 14) rfl rfl rfl rfl rfl ?_
  refine hp_s (pc' := 16) (st' := [.int 7, .ref 67]) rfl rfl rfl ?_
  refine hp_s (pc' := 17) (st' := [.ref 66, .int 7, .ref 67]) rfl rfl rfl ?_
  refine hp_get (k := 6) (pc' := 20) (v := (rI p 66 6)) rfl rfl rfl rfl rfl (by rw [ep1, rI_o (by decide)]) ?_
  refine hp_z (pc' := 21) (e := 7 + (rI p 66 6)) (st' := [.ref 67]) rfl rfl rfl ?_
  intro z1 hz1
  have ez1 := i_add hz1 (show (7 : Int32).toInt = 7 from by decide) (show (rI p 66 6).toInt = (rI p 66 6).toInt from rfl)
  refine hp_s (pc' := 22) (st' := [.int y, .int z1, .ref 67]) rfl rfl rfl ?_
  refine hp_st (t := 100) rfl (.inl rfl) rfl rfl ?_
  intro p2 wp2 (p2a : 0 ≤ z1.toInt) (p2b : z1.toInt < 23) ep2
  refine hp_s (pc' := 24) (st' := [.ref 66]) rfl rfl rfl ?_
  refine hp_getr (k := 0) (w := .ref 67) (pc' := 27) rfl rfl rfl rfl rfl ?_
  refine hp_s (pc' := 29) (st' := [.int 14, .ref 67]) rfl rfl rfl ?_
  refine hp_s (pc' := 30) (st' := [.ref 66, .int 14, .ref 67]) rfl rfl rfl ?_
  refine hp_get (k := 6) (pc' := 33) (v := (rI p 66 6)) rfl rfl rfl rfl rfl (by rw [ep2, rI_o (by decide), ep1, rI_o (by decide)]) ?_
  refine hp_z (pc' := 34) (e := 14 + (rI p 66 6)) (st' := [.ref 67]) rfl rfl rfl ?_
  intro z2 hz2
  have ez2 := i_add hz2 (show (14 : Int32).toInt = 14 from by decide) (show (rI p 66 6).toInt = (rI p 66 6).toInt from rfl)
  refine hp_s (pc' := 35) (st' := [.int 0, .int z2, .ref 67]) rfl rfl rfl ?_
  refine hp_st (t := 100) rfl (.inl rfl) rfl rfl ?_
  intro p3 wp3 (p3a : 0 ≤ z2.toInt) (p3b : z2.toInt < 23) ep3
  refine hp_s (pc' := 37) (st' := [.ref 66]) rfl rfl rfl ?_
  refine hp_s (pc' := 38) (st' := [.ref 66, .ref 66]) rfl rfl rfl ?_
  refine hp_get (k := 6) (pc' := 41) (v := (rI p 66 6)) rfl rfl rfl rfl rfl (by rw [ep3, rI_o (by decide), ep2, rI_o (by decide), ep1, rI_o (by decide)]) ?_
  refine hp_s (pc' := 42) (st' := [.int 1, .int (rI p 66 6), .ref 66]) rfl rfl rfl ?_
  refine hp_z (pc' := 43) (e := (rI p 66 6) + 1) (st' := [.ref 66]) rfl rfl rfl ?_
  intro z3 hz3
  have ez3 := i_add hz3 (show (rI p 66 6).toInt = (rI p 66 6).toInt from rfl) (show (1 : Int32).toInt = 1 from by decide)
  refine hp_put (k := 6) (pc' := 46) rfl rfl rfl rfl rfl ?_
  intro p4 wp4 ep4
  refine hp_rv rfl rfl ?_
  first | (exact k0 _ (by subst_vars; repeat' (first | with_reducible rfl | omega | rfl | congr 1)) (by first | assumption | omega | (rw [ep4, rI_eq wp4 (by decide)]; omega))) | (exfalso; omega)
theorem M_person {ro : List (List Int32)} {n d : Nat} {p : xH} {Q : Option Value → xH → Prop} {x : Int32} {xi : Int} {y : Int32} {yi : Int} (hx : x.toInt = xi) (hy : y.toInt = yi) (pre0 : 0 ≤ (rI p 66 6).toInt) (pre1 : (rI p 66 6).toInt ≤ 7) (k0 : (¬ (0 ≤ xi ∧ xi ≤ 63 ∧ 0 ≤ yi ∧ yi ≤ 63)) → Q (some (.int (-1))) p) (k1 : (0 ≤ xi) → (xi ≤ 63) → (0 ≤ yi) → (yi ≤ 63) → ((rI p 66 6).toInt = 7) → Q (some (.int (-3))) p) (k2 : ∀ z : Int32, ∀ p2 : xH, p2 = (wV (wV (wV (wV p 67 ((rI p 66 6).toInt.toNat) (.int x)) 67 ((7 + (rI p 66 6).toInt).toNat) (.int y)) 67 ((14 + (rI p 66 6).toInt).toNat) (.int 0)) 66 6 (.int (rI p 66 6 + 1))) → (0 ≤ xi) → (xi ≤ 63) → (0 ≤ yi) → (yi ≤ 63) → (0 ≤ (rI p 66 6).toInt) → ((rI p 66 6).toInt < 7) → (z.toInt = (rI p 66 6).toInt) → Q (some (.int z)) p2) : hP ro n d (12, 3, 1, 1, k185) 0 (lv_args 0 [.ref 66, .int x, .int y]) [] p Q := by
  subst hx
  subst hy
  refine hp_id (ls := [(0, .ref 66), (1, .int x), (2, .int y)]) ?_
  refine hp_s (pc' := 1) (st' := [.int x]) rfl rfl rfl ?_
  refine hp_i2l (pc' := 2) rfl rfl ?_
  intro z1 hz1 ez1
  refine hp_cs (kd := 0) (as := [.long z1]) (rest := []) (pc' := 5) rfl rfl rfl rfl rfl rfl rfl (fun d1 => ?_)
  refine s_areLooks (xi := x.toInt) ez1 ?_ ?_
  ·
    intro h1 h2
    refine hp_id (st := [.int 1]) ?_
    refine hp_go (pc' := 8) rfl rfl rfl ?_
    refine hp_s (pc' := 9) (st' := [.int y]) rfl rfl rfl ?_
    refine hp_i2l (pc' := 10) rfl rfl ?_
    intro z2 hz2 ez2
    refine hp_cs (kd := 0) (as := [.long z2]) (rest := []) (pc' := 13) rfl rfl rfl rfl rfl rfl rfl (fun d2 => ?_)
    refine s_areLooks (xi := y.toInt) ez2 ?_ ?_
    ·
      intro h3 h4
      refine hp_id (st := [.int 1]) ?_
      refine hp_go (pc' := 18) rfl rfl rfl ?_
      refine hp_s (pc' := 19) (st' := [.ref 66]) rfl rfl rfl ?_
      refine hp_get (k := 6) (pc' := 22) (v := (rI p 66 6)) rfl rfl rfl rfl rfl rfl ?_
      refine hp_s (pc' := 24) (st' := [.int 7, .int (rI p 66 6)]) rfl rfl rfl ?_
      refine hp_ic (pc' := 27) (t := 30) (a := (rI p 66 6).toInt) (b := 7) rfl rfl rfl rfl (by decide) (fun (h5 : (rI p 66 6).toInt ≠ 7) => ?_) (fun (h6 : ¬ ((rI p 66 6).toInt ≠ 7)) => ?_)
      ·
        refine hp_s (pc' := 31) (st' := [.ref 66]) rfl rfl rfl ?_
        refine hp_s (pc' := 32) (st' := [.int x, .ref 66]) rfl rfl rfl ?_
        refine hp_s (pc' := 33) (st' := [.int y, .int x, .ref 66]) rfl rfl rfl ?_
        refine hp_cv (r := 66) (o := 12) (kd := 1) (as := [.int x, .int y]) (rest := []) (pc' := 36) rfl rfl rfl rfl rfl rfl rfl rfl rfl (fun d3 => ?_)
        refine s_adds (xi := x.toInt) rfl (yi := y.toInt) rfl (by first | assumption | omega) (by first | assumption | omega) ?_
        intro p1 ep1 h7
        refine hp_id (st := []) ?_
        refine hp_s (pc' := 37) (st' := [.ref 66]) rfl rfl rfl ?_
        refine hp_get (k := 6) (pc' := 40) (v := (rI p1 66 6)) rfl rfl rfl rfl rfl rfl ?_
        refine hp_s (pc' := 41) (st' := [.int 1, .int (rI p1 66 6)]) rfl rfl rfl ?_
        refine hp_z (pc' := 42) (e := (rI p1 66 6) - 1) (st' := []) rfl rfl rfl ?_
        intro z3 hz3
        have ez3 := i_sub hz3 (show (rI p1 66 6).toInt = (rI p1 66 6).toInt from rfl) (show (1 : Int32).toInt = 1 from by decide)
        refine hp_ri rfl rfl ?_
        first | (exact k0 (by first | assumption | omega)) | (exact k1 (by first | assumption | omega) (by first | assumption | omega) (by first | assumption | omega) (by first | assumption | omega) (by first | assumption | omega)) | (exact k2 _ _ (by subst_vars; rfl) (by first | assumption | omega) (by first | assumption | omega) (by first | assumption | omega) (by first | assumption | omega) (by first | assumption | omega) (by first | assumption | omega) (by first | assumption | omega)) | (exfalso; omega)
      ·
        refine hp_s (pc' := 29) (st' := [.int (-3)]) rfl rfl rfl ?_
        refine hp_ri rfl rfl ?_
        first | (exact k1 (by first | assumption | omega) (by first | assumption | omega) (by first | assumption | omega) (by first | assumption | omega) (by first | assumption | omega)) | (exact k2 _ _ (by subst_vars; rfl) (by first | assumption | omega) (by first | assumption | omega) (by first | assumption | omega) (by first | assumption | omega) (by first | assumption | omega) (by first | assumption | omega) (by first | assumption | omega)) | (exfalso; omega)
    ·
      intro h8
      refine hp_id (st := [.int 0]) ?_
      refine hp_go (pc' := 16) rfl rfl rfl ?_
      refine hp_s (pc' := 17) (st' := [.int (-1)]) rfl rfl rfl ?_
      refine hp_ri rfl rfl ?_
      first | (exact k0 (by first | assumption | omega)) | (exact k2 _ _ (by subst_vars; rfl) (by first | assumption | omega) (by first | assumption | omega) (by first | assumption | omega) (by first | assumption | omega) (by first | assumption | omega) (by first | assumption | omega) (by first | assumption | omega)) | (exfalso; omega)
  ·
    intro h9
    refine hp_id (st := [.int 0]) ?_
    refine hp_go (pc' := 16) rfl rfl rfl ?_
    refine hp_s (pc' := 17) (st' := [.int (-1)]) rfl rfl rfl ?_
    refine hp_ri rfl rfl ?_
    first | (exact k0 (by first | assumption | omega)) | (exact k2 _ _ (by subst_vars; rfl) (by first | assumption | omega) (by first | assumption | omega) (by first | assumption | omega) (by first | assumption | omega) (by first | assumption | omega) (by first | assumption | omega) (by first | assumption | omega)) | (exfalso; omega)
theorem lp_127b {ro : List (List Int32)} {d : Nat} {Q : Option Value → xH → Prop} {x i w s : Int32} {p0 : xH} {S : Nat} (g0 : 0 ≤ x.toInt) (g1 : x.toInt < 6) (g2 : 0 ≤ i.toInt) (g3 : s.toInt ≤ 60) (g4 : 0 ≤ s.toInt) (hS : (rI p0 13 7).toInt = S) (K : ∀ (z : Int32) (c : Nat) (p2 : xH), z.toInt = c → hCnt 65 p0 x.toInt i.toInt s.toInt S w.toInt c → hPx p0 p2 x.toInt i.toInt S c → Q (some (.int z)) p2) : ∀ (n : Nat) (c : Nat) (cc : Int32) (ai : Int32) (l1 : Int64) (l2 : Int64) (p : xH), (cc.toInt = c) → (ai.toInt = i.toInt + 2 * c) → ((c : Int) ≤ w.toInt) → (∀ k, k < c → hOk 65 p0 x.toInt i.toInt s.toInt S k) → (hPx p0 p x.toInt i.toInt S c) → hP ro n d (11, 11, 1, 1, k127) 22 [(6, .int ai), (5, .int cc), (9, .long l2), (7, .long l1), (4, .int s), (0, .ref 0), (1, .int x), (2, .int i), (3, .int w)] [] p Q := by
  intro n
  induction n with
  | zero => intros; exact hp_0
  | succ n ih =>
    intro c cc ai l1 l2 p hcc hat hcw hk hX
    refine hp_hw (fun wp => ?_)
    have hX2 := hX.2.1
    refine hp_s1 (pc' := 24) (st' := [.int ai]) rfl rfl rfl ?_
    refine hp_s (pc' := 26) (st' := [.int s, .int ai]) rfl rfl rfl ?_
    refine hp_s (pc' := 27) (st' := [.int 1, .int s, .int ai]) rfl rfl rfl ?_
    refine hp_z (pc' := 28) (e := s - 1) (st' := [.int ai]) rfl rfl rfl ?_
    intro z1 hz1
    have ez1 := i_sub hz1 (show s.toInt = s.toInt from rfl) (show (1 : Int32).toInt = 1 from by decide)
    refine hp_ic (pc' := 31) (t := 112) (a := ai.toInt) (b := z1.toInt) rfl rfl rfl rfl rfl (fun (h1 : z1.toInt ≤ ai.toInt) => ?_) (fun (h2 : ¬ (z1.toInt ≤ ai.toInt)) => ?_)
    ·
      refine hp_s (pc' := 114) (st' := [.int cc]) rfl rfl rfl ?_
      refine hp_ri rfl rfl ?_
      first | (exfalso; omega) | (refine K _ c _ hcc ⟨by omega, hk, ?_⟩ hX; first | exact Or.inl (by omega) | exact Or.inr (fun z => by unfold hOk at z; omega))
    ·
      refine hp_s (pc' := 33) (st' := [.int cc]) rfl rfl rfl ?_
      refine hp_s (pc' := 34) (st' := [.int w, .int cc]) rfl rfl rfl ?_
      refine hp_ic (pc' := 37) (t := 112) (a := cc.toInt) (b := w.toInt) rfl rfl rfl rfl rfl (fun (h3 : w.toInt ≤ cc.toInt) => ?_) (fun (h4 : ¬ (w.toInt ≤ cc.toInt)) => ?_)
      ·
        refine hp_s (pc' := 114) (st' := [.int cc]) rfl rfl rfl ?_
        refine hp_ri rfl rfl ?_
        first | (exfalso; omega) | (refine K _ c _ hcc ⟨by omega, hk, ?_⟩ hX; first | exact Or.inl (by omega) | exact Or.inr (fun z => by unfold hOk at z; omega))
      ·
        refine hp_s (pc' := 38) (st' := [.ref 0]) rfl rfl rfl ?_
        refine hp_getr (k := 13) (w := .ref 60) (pc' := 41) rfl rfl rfl rfl rfl ?_
        refine hp_s (pc' := 42) (st' := [.int x, .ref 60]) rfl rfl rfl ?_
        refine hp_s (pc' := 44) (st' := [.int ai, .int x, .ref 60]) rfl rfl rfl ?_
        refine hp_cv (r := 60) (o := 6) (kd := 1) (as := [.int x, .int ai]) (rest := []) (pc' := 47) rfl rfl rfl rfl rfl rfl rfl rfl rfl (fun d1 => ?_)
        refine s_read (xi := x.toInt) rfl (yi := ai.toInt) rfl (by first | assumption | omega) (by first | assumption | omega) (by first | assumption | omega) (by first | assumption | omega) ?_
        intro y1 h5
        have q1 : (rJ p0 65 (60 * x.toInt.toNat + (i.toInt.toNat + 2 * c))).toInt = y1.toInt := by rw [h5, hX.1.long (r := 65) rfl]; congr 2; omega
        refine hp_id (st := [.long y1]) ?_
        refine hp_s (pc' := 49) (ls' := [(7, .long y1), (6, .int ai), (5, .int cc), (9, .long l2), (4, .int s), (0, .ref 0), (1, .int x), (2, .int i), (3, .int w)]) (st' := []) rfl rfl rfl ?_
        refine hp_s (pc' := 50) (st' := [.ref 0]) rfl rfl rfl ?_
        refine hp_getr (k := 13) (w := .ref 60) (pc' := 53) rfl rfl rfl rfl rfl ?_
        refine hp_s (pc' := 54) (st' := [.int x, .ref 60]) rfl rfl rfl ?_
        refine hp_s (pc' := 56) (st' := [.int ai, .int x, .ref 60]) rfl rfl rfl ?_
        refine hp_s (pc' := 57) (st' := [.int 1, .int ai, .int x, .ref 60]) rfl rfl rfl ?_
        refine hp_z (pc' := 58) (e := ai + 1) (st' := [.int x, .ref 60]) rfl rfl rfl ?_
        intro z2 hz2
        have ez2 := i_add hz2 (show ai.toInt = ai.toInt from rfl) (show (1 : Int32).toInt = 1 from by decide)
        refine hp_cv (r := 60) (o := 6) (kd := 1) (as := [.int x, .int z2]) (rest := []) (pc' := 61) rfl rfl rfl rfl rfl rfl rfl rfl rfl (fun d2 => ?_)
        refine s_read (xi := x.toInt) rfl (yi := z2.toInt) rfl (by first | assumption | omega) (by first | assumption | omega) (by first | assumption | omega) (by first | assumption | omega) ?_
        intro y2 h6
        have q2 : (rJ p0 65 (60 * x.toInt.toNat + (i.toInt.toNat + 2 * c + 1))).toInt = y2.toInt := by rw [h6, hX.1.long (r := 65) rfl]; congr 2; omega
        refine hp_id (st := [.long y2]) ?_
        refine hp_s (pc' := 63) (ls' := [(9, .long y2), (7, .long y1), (6, .int ai), (5, .int cc), (4, .int s), (0, .ref 0), (1, .int x), (2, .int i), (3, .int w)]) (st' := []) rfl rfl rfl ?_
        refine hp_s (pc' := 65) (st' := [.long y1]) rfl rfl rfl ?_
        refine hp_cs (kd := 0) (as := [.long y1]) (rest := []) (pc' := 68) rfl rfl rfl rfl rfl rfl rfl (fun d3 => ?_)
        refine s_isParts (xi := y1.toInt) rfl ?_ ?_
        ·
          intro h7 h8
          refine hp_id (st := [.int 1]) ?_
          refine hp_go (pc' := 71) rfl rfl rfl ?_
          refine hp_s (pc' := 73) (st' := [.long y2]) rfl rfl rfl ?_
          refine hp_cs (kd := 0) (as := [.long y2]) (rest := []) (pc' := 76) rfl rfl rfl rfl rfl rfl rfl (fun d4 => ?_)
          refine s_isParts (xi := y2.toInt) rfl ?_ ?_
          ·
            intro h9 h10
            refine hp_id (st := [.int 1]) ?_
            refine hp_go (pc' := 82) rfl rfl rfl ?_
            refine hp_s (pc' := 83) (st' := [.ref 0]) rfl rfl rfl ?_
            refine hp_getr (k := 4) (w := .ref 13) (pc' := 86) rfl rfl rfl rfl rfl ?_
            refine hp_s (pc' := 88) (st' := [.long y1, .ref 13]) rfl rfl rfl ?_
            refine hp_z (pc' := 89) (e := y1.toInt32) (st' := [.ref 13]) rfl rfl rfl ?_
            intro z3 hz3
            refine hp_s (pc' := 91) (st' := [.long y2, .int z3, .ref 13]) rfl rfl rfl ?_
            refine hp_z (pc' := 92) (e := y2.toInt32) (st' := [.int z3, .ref 13]) rfl rfl rfl ?_
            intro z4 hz4
            refine hp_cv (r := 13) (o := 1) (kd := 1) (as := [.int z3, .int z4]) (rest := []) (pc' := 95) rfl rfl rfl rfl rfl rfl rfl rfl rfl (fun d5 => ?_)
            refine s_come (xi := z3.toInt) rfl (yi := z4.toInt) rfl ?_ ?_
            ·
              intro h11
              refine hp_id (st := [.int (-3)]) ?_
              refine hp_s (pc' := 97) (st' := [.int (-3), .int (-3)]) rfl rfl rfl ?_
              refine hp_go (pc' := 100) rfl rfl rfl ?_
              refine hp_s (pc' := 102) (st' := [.int cc]) rfl rfl rfl ?_
              refine hp_ri rfl rfl ?_
              first | (exfalso; omega) | (refine K _ c _ hcc ⟨by omega, hk, ?_⟩ hX; first | exact Or.inl (by omega) | exact Or.inr (fun z => by unfold hOk at z; omega))
            ·
              intro y3 p1 ep1 h12 h13 h14
              refine hp_id (st := [.int y3]) ?_
              refine hp_s (pc' := 97) (st' := [.int (-3), .int y3]) rfl rfl rfl ?_
              refine hp_ic (pc' := 100) (t := 103) (a := y3.toInt) (b := (-3)) rfl rfl rfl rfl (by decide) (fun (h15 : y3.toInt ≠ (-3)) => ?_) (fun (h16 : ¬ (y3.toInt ≠ (-3))) => ?_)
              ·
                refine hp_inc (L := fun z => [(5, .int z), (9, .long y2), (7, .long y1), (6, .int ai), (4, .int s), (0, .ref 0), (1, .int x), (2, .int i), (3, .int w)]) (pc' := 106) rfl rfl rfl (fun _ => rfl) rfl ?_
                intro z5 hz5
                have ez5 := i_add hz5 (show cc.toInt = cc.toInt from rfl) (show (Int32.ofInt 1).toInt = 1 from by decide)
                refine hp_inc (L := fun z => [(6, .int z), (5, .int z5), (9, .long y2), (7, .long y1), (4, .int s), (0, .ref 0), (1, .int x), (2, .int i), (3, .int w)]) (pc' := 109) rfl rfl rfl (fun _ => rfl) rfl ?_
                intro z6 hz6
                have ez6 := i_add hz6 (show ai.toInt = ai.toInt from rfl) (show (Int32.ofInt 2).toInt = 2 from by decide)
                refine hp_go (pc' := 22) rfl rfl rfl ?_
                have hX2 := hPx_s hX wp (by omega) (u := z3) (v := z4) (by rw [hz3]; congr 1; apply Int64.toInt_inj.mp; omega) (by rw [hz4]; congr 1; apply Int64.toInt_inj.mp; omega) ep1
                exact ih (c + 1) _ _ _ _ _ (by push_cast; omega) (by push_cast; omega) (by push_cast; omega) (fun k hk2 => by rcases Nat.lt_or_ge k c with z | z; exact hk k z; rw [show k = c by omega]; unfold hOk; omega) hX2
              ·
                refine hp_s (pc' := 102) (st' := [.int cc]) rfl rfl rfl ?_
                refine hp_ri rfl rfl ?_
                first | (exfalso; omega) | (refine K _ c _ hcc ⟨by omega, hk, ?_⟩ hX; first | exact Or.inl (by omega) | exact Or.inr (fun z => by unfold hOk at z; omega))
          ·
            intro h17
            refine hp_id (st := [.int 0]) ?_
            refine hp_go (pc' := 79) rfl rfl rfl ?_
            refine hp_s (pc' := 81) (st' := [.int cc]) rfl rfl rfl ?_
            refine hp_ri rfl rfl ?_
            first | (exfalso; omega) | (refine K _ c _ hcc ⟨by omega, hk, ?_⟩ hX; first | exact Or.inl (by omega) | exact Or.inr (fun z => by unfold hOk at z; omega))
        ·
          intro h18
          refine hp_id (st := [.int 0]) ?_
          refine hp_go (pc' := 79) rfl rfl rfl ?_
          refine hp_s (pc' := 81) (st' := [.int cc]) rfl rfl rfl ?_
          refine hp_ri rfl rfl ?_
          first | (exfalso; omega) | (refine K _ c _ hcc ⟨by omega, hk, ?_⟩ hX; first | exact Or.inl (by omega) | exact Or.inr (fun z => by unfold hOk at z; omega))
theorem lp_127a {ro : List (List Int32)} {d : Nat} {Q : Option Value → xH → Prop} {x i w s : Int32} {p0 : xH} {S : Nat} (g0 : 0 ≤ x.toInt) (g1 : x.toInt < 6) (g2 : 0 ≤ i.toInt) (g3 : s.toInt ≤ 60) (g4 : 0 ≤ s.toInt) (hS : (rI p0 13 7).toInt = S) (K : ∀ (z : Int32) (c : Nat) (p2 : xH), z.toInt = c → hCnt 65 p0 x.toInt i.toInt s.toInt S w.toInt c → hPx p0 p2 x.toInt i.toInt S c → Q (some (.int z)) p2) : ∀ (n : Nat) (c : Nat) (cc : Int32) (ai : Int32) (p : xH), (cc.toInt = c) → (ai.toInt = i.toInt + 2 * c) → ((c : Int) ≤ w.toInt) → (∀ k, k < c → hOk 65 p0 x.toInt i.toInt s.toInt S k) → (hPx p0 p x.toInt i.toInt S c) → hP ro n d (11, 11, 1, 1, k127) 22 [(6, .int ai), (5, .int cc), (4, .int s), (0, .ref 0), (1, .int x), (2, .int i), (3, .int w)] [] p Q := by
  intro n
  intro c cc ai p hcc hat hcw hk hX
  refine hp_hw (fun wp => ?_)
  have hX2 := hX.2.1
  refine hp_s (pc' := 24) (st' := [.int ai]) rfl rfl rfl ?_
  refine hp_s (pc' := 26) (st' := [.int s, .int ai]) rfl rfl rfl ?_
  refine hp_s (pc' := 27) (st' := [.int 1, .int s, .int ai]) rfl rfl rfl ?_
  refine hp_z (pc' := 28) (e := s - 1) (st' := [.int ai]) rfl rfl rfl ?_
  intro z1 hz1
  have ez1 := i_sub hz1 (show s.toInt = s.toInt from rfl) (show (1 : Int32).toInt = 1 from by decide)
  refine hp_ic (pc' := 31) (t := 112) (a := ai.toInt) (b := z1.toInt) rfl rfl rfl rfl rfl (fun (h1 : z1.toInt ≤ ai.toInt) => ?_) (fun (h2 : ¬ (z1.toInt ≤ ai.toInt)) => ?_)
  ·
    refine hp_s (pc' := 114) (st' := [.int cc]) rfl rfl rfl ?_
    refine hp_ri rfl rfl ?_
    first | (exfalso; omega) | (refine K _ c _ hcc ⟨by omega, hk, ?_⟩ hX; first | exact Or.inl (by omega) | exact Or.inr (fun z => by unfold hOk at z; omega))
  ·
    refine hp_s (pc' := 33) (st' := [.int cc]) rfl rfl rfl ?_
    refine hp_s (pc' := 34) (st' := [.int w, .int cc]) rfl rfl rfl ?_
    refine hp_ic (pc' := 37) (t := 112) (a := cc.toInt) (b := w.toInt) rfl rfl rfl rfl rfl (fun (h3 : w.toInt ≤ cc.toInt) => ?_) (fun (h4 : ¬ (w.toInt ≤ cc.toInt)) => ?_)
    ·
      refine hp_s (pc' := 114) (st' := [.int cc]) rfl rfl rfl ?_
      refine hp_ri rfl rfl ?_
      first | (exfalso; omega) | (refine K _ c _ hcc ⟨by omega, hk, ?_⟩ hX; first | exact Or.inl (by omega) | exact Or.inr (fun z => by unfold hOk at z; omega))
    ·
      refine hp_s (pc' := 38) (st' := [.ref 0]) rfl rfl rfl ?_
      refine hp_getr (k := 13) (w := .ref 60) (pc' := 41) rfl rfl rfl rfl rfl ?_
      refine hp_s (pc' := 42) (st' := [.int x, .ref 60]) rfl rfl rfl ?_
      refine hp_s (pc' := 44) (st' := [.int ai, .int x, .ref 60]) rfl rfl rfl ?_
      refine hp_cv (r := 60) (o := 6) (kd := 1) (as := [.int x, .int ai]) (rest := []) (pc' := 47) rfl rfl rfl rfl rfl rfl rfl rfl rfl (fun d1 => ?_)
      refine s_read (xi := x.toInt) rfl (yi := ai.toInt) rfl (by first | assumption | omega) (by first | assumption | omega) (by first | assumption | omega) (by first | assumption | omega) ?_
      intro y1 h5
      have q1 : (rJ p0 65 (60 * x.toInt.toNat + (i.toInt.toNat + 2 * c))).toInt = y1.toInt := by rw [h5, hX.1.long (r := 65) rfl]; congr 2; omega
      refine hp_id (st := [.long y1]) ?_
      refine hp_s (pc' := 49) (ls' := [(7, .long y1), (6, .int ai), (5, .int cc), (4, .int s), (0, .ref 0), (1, .int x), (2, .int i), (3, .int w)]) (st' := []) rfl rfl rfl ?_
      refine hp_s (pc' := 50) (st' := [.ref 0]) rfl rfl rfl ?_
      refine hp_getr (k := 13) (w := .ref 60) (pc' := 53) rfl rfl rfl rfl rfl ?_
      refine hp_s (pc' := 54) (st' := [.int x, .ref 60]) rfl rfl rfl ?_
      refine hp_s (pc' := 56) (st' := [.int ai, .int x, .ref 60]) rfl rfl rfl ?_
      refine hp_s (pc' := 57) (st' := [.int 1, .int ai, .int x, .ref 60]) rfl rfl rfl ?_
      refine hp_z (pc' := 58) (e := ai + 1) (st' := [.int x, .ref 60]) rfl rfl rfl ?_
      intro z2 hz2
      have ez2 := i_add hz2 (show ai.toInt = ai.toInt from rfl) (show (1 : Int32).toInt = 1 from by decide)
      refine hp_cv (r := 60) (o := 6) (kd := 1) (as := [.int x, .int z2]) (rest := []) (pc' := 61) rfl rfl rfl rfl rfl rfl rfl rfl rfl (fun d2 => ?_)
      refine s_read (xi := x.toInt) rfl (yi := z2.toInt) rfl (by first | assumption | omega) (by first | assumption | omega) (by first | assumption | omega) (by first | assumption | omega) ?_
      intro y2 h6
      have q2 : (rJ p0 65 (60 * x.toInt.toNat + (i.toInt.toNat + 2 * c + 1))).toInt = y2.toInt := by rw [h6, hX.1.long (r := 65) rfl]; congr 2; omega
      refine hp_id (st := [.long y2]) ?_
      refine hp_s (pc' := 63) (ls' := [(9, .long y2), (7, .long y1), (6, .int ai), (5, .int cc), (4, .int s), (0, .ref 0), (1, .int x), (2, .int i), (3, .int w)]) (st' := []) rfl rfl rfl ?_
      refine hp_s (pc' := 65) (st' := [.long y1]) rfl rfl rfl ?_
      refine hp_cs (kd := 0) (as := [.long y1]) (rest := []) (pc' := 68) rfl rfl rfl rfl rfl rfl rfl (fun d3 => ?_)
      refine s_isParts (xi := y1.toInt) rfl ?_ ?_
      ·
        intro h7 h8
        refine hp_id (st := [.int 1]) ?_
        refine hp_go (pc' := 71) rfl rfl rfl ?_
        refine hp_s (pc' := 73) (st' := [.long y2]) rfl rfl rfl ?_
        refine hp_cs (kd := 0) (as := [.long y2]) (rest := []) (pc' := 76) rfl rfl rfl rfl rfl rfl rfl (fun d4 => ?_)
        refine s_isParts (xi := y2.toInt) rfl ?_ ?_
        ·
          intro h9 h10
          refine hp_id (st := [.int 1]) ?_
          refine hp_go (pc' := 82) rfl rfl rfl ?_
          refine hp_s (pc' := 83) (st' := [.ref 0]) rfl rfl rfl ?_
          refine hp_getr (k := 4) (w := .ref 13) (pc' := 86) rfl rfl rfl rfl rfl ?_
          refine hp_s (pc' := 88) (st' := [.long y1, .ref 13]) rfl rfl rfl ?_
          refine hp_z (pc' := 89) (e := y1.toInt32) (st' := [.ref 13]) rfl rfl rfl ?_
          intro z3 hz3
          refine hp_s (pc' := 91) (st' := [.long y2, .int z3, .ref 13]) rfl rfl rfl ?_
          refine hp_z (pc' := 92) (e := y2.toInt32) (st' := [.int z3, .ref 13]) rfl rfl rfl ?_
          intro z4 hz4
          refine hp_cv (r := 13) (o := 1) (kd := 1) (as := [.int z3, .int z4]) (rest := []) (pc' := 95) rfl rfl rfl rfl rfl rfl rfl rfl rfl (fun d5 => ?_)
          refine s_come (xi := z3.toInt) rfl (yi := z4.toInt) rfl ?_ ?_
          ·
            intro h11
            refine hp_id (st := [.int (-3)]) ?_
            refine hp_s (pc' := 97) (st' := [.int (-3), .int (-3)]) rfl rfl rfl ?_
            refine hp_go (pc' := 100) rfl rfl rfl ?_
            refine hp_s (pc' := 102) (st' := [.int cc]) rfl rfl rfl ?_
            refine hp_ri rfl rfl ?_
            first | (exfalso; omega) | (refine K _ c _ hcc ⟨by omega, hk, ?_⟩ hX; first | exact Or.inl (by omega) | exact Or.inr (fun z => by unfold hOk at z; omega))
          ·
            intro y3 p1 ep1 h12 h13 h14
            refine hp_id (st := [.int y3]) ?_
            refine hp_s (pc' := 97) (st' := [.int (-3), .int y3]) rfl rfl rfl ?_
            refine hp_ic (pc' := 100) (t := 103) (a := y3.toInt) (b := (-3)) rfl rfl rfl rfl (by decide) (fun (h15 : y3.toInt ≠ (-3)) => ?_) (fun (h16 : ¬ (y3.toInt ≠ (-3))) => ?_)
            ·
              refine hp_inc (L := fun z => [(5, .int z), (9, .long y2), (7, .long y1), (6, .int ai), (4, .int s), (0, .ref 0), (1, .int x), (2, .int i), (3, .int w)]) (pc' := 106) rfl rfl rfl (fun _ => rfl) rfl ?_
              intro z5 hz5
              have ez5 := i_add hz5 (show cc.toInt = cc.toInt from rfl) (show (Int32.ofInt 1).toInt = 1 from by decide)
              refine hp_inc (L := fun z => [(6, .int z), (5, .int z5), (9, .long y2), (7, .long y1), (4, .int s), (0, .ref 0), (1, .int x), (2, .int i), (3, .int w)]) (pc' := 109) rfl rfl rfl (fun _ => rfl) rfl ?_
              intro z6 hz6
              have ez6 := i_add hz6 (show ai.toInt = ai.toInt from rfl) (show (Int32.ofInt 2).toInt = 2 from by decide)
              refine hp_go (pc' := 22) rfl rfl rfl ?_
              have hX2 := hPx_s hX wp (by omega) (u := z3) (v := z4) (by rw [hz3]; congr 1; apply Int64.toInt_inj.mp; omega) (by rw [hz4]; congr 1; apply Int64.toInt_inj.mp; omega) ep1
              exact lp_127b g0 g1 g2 g3 g4 hS K n (c + 1) _ _ _ _ _ (by push_cast; omega) (by push_cast; omega) (by push_cast; omega) (fun k hk2 => by rcases Nat.lt_or_ge k c with z | z; exact hk k z; rw [show k = c by omega]; unfold hOk; omega) hX2
            ·
              refine hp_s (pc' := 102) (st' := [.int cc]) rfl rfl rfl ?_
              refine hp_ri rfl rfl ?_
              first | (exfalso; omega) | (refine K _ c _ hcc ⟨by omega, hk, ?_⟩ hX; first | exact Or.inl (by omega) | exact Or.inr (fun z => by unfold hOk at z; omega))
        ·
          intro h17
          refine hp_id (st := [.int 0]) ?_
          refine hp_go (pc' := 79) rfl rfl rfl ?_
          refine hp_s (pc' := 81) (st' := [.int cc]) rfl rfl rfl ?_
          refine hp_ri rfl rfl ?_
          first | (exfalso; omega) | (refine K _ c _ hcc ⟨by omega, hk, ?_⟩ hX; first | exact Or.inl (by omega) | exact Or.inr (fun z => by unfold hOk at z; omega))
      ·
        intro h18
        refine hp_id (st := [.int 0]) ?_
        refine hp_go (pc' := 79) rfl rfl rfl ?_
        refine hp_s (pc' := 81) (st' := [.int cc]) rfl rfl rfl ?_
        refine hp_ri rfl rfl ?_
        first | (exfalso; omega) | (refine K _ c _ hcc ⟨by omega, hk, ?_⟩ hX; first | exact Or.inl (by omega) | exact Or.inr (fun z => by unfold hOk at z; omega))
theorem s_comeFrom {ro : List (List Int32)} {n d : Nat} {p : xH} {Q : Option Value → xH → Prop} {x : Int32} {xi : Int} {i : Int32} {ii : Int} {w : Int32} {wi : Int} (hx : x.toInt = xi) (hi : i.toInt = ii) (hw : w.toInt = wi) (pre0 : 0 ≤ xi) (pre1 : xi < 6) (pre2 : 0 ≤ (rI p 64 xi.toNat).toInt) (pre3 : (rI p 64 xi.toNat).toInt ≤ 60) (pre4 : 0 ≤ (rI p 13 7).toInt) (pre5 : 0 ≤ wi) (k0 : (ii < 0) → Q (some (.int (0))) p) (k1 : ∀ z : Int32, ∀ c : Nat, ∀ p2 : xH, (0 ≤ ii) → (z.toInt = c) → (hCnt 65 p xi ii (rI p 64 xi.toNat).toInt ((rI p 13 7).toInt.toNat : Int) wi c) → (hPx p p2 xi ii (rI p 13 7).toInt.toNat c) → Q (some (.int z)) p2) : hP ro n d (11, 11, 1, 1, k127) 0 (lv_args 0 [.ref 0, .int x, .int i, .int w]) [] p Q := by
  subst hx
  subst hi
  subst hw
  refine hp_id (ls := [(0, .ref 0), (1, .int x), (2, .int i), (3, .int w)]) ?_
  refine hp_s (pc' := 1) (st' := [.int i]) rfl rfl rfl ?_
  refine hp_if (pc' := 4) (t := 6) (a := i.toInt) rfl rfl rfl rfl (fun (h1 : 0 ≤ i.toInt) => ?_) (fun (h2 : ¬ (0 ≤ i.toInt)) => ?_)
  ·
    refine hp_s (pc' := 7) (st' := [.ref 0]) rfl rfl rfl ?_
    refine hp_getr (k := 13) (w := .ref 60) (pc' := 10) rfl rfl rfl rfl rfl ?_
    refine hp_s (pc' := 11) (st' := [.int x, .ref 60]) rfl rfl rfl ?_
    refine hp_cv (r := 60) (o := 6) (kd := 1) (as := [.int x]) (rest := []) (pc' := 14) rfl rfl rfl rfl rfl rfl rfl rfl rfl (fun d1 => ?_)
    refine s_sizeOf (xi := x.toInt) rfl ?_
    intro h3 h4
    refine hp_id (st := [.int (rI p 64 x.toInt.toNat)]) ?_
    refine hp_s (pc' := 16) (ls' := [(4, .int (rI p 64 x.toInt.toNat)), (0, .ref 0), (1, .int x), (2, .int i), (3, .int w)]) (st' := []) rfl rfl rfl ?_
    refine hp_s (pc' := 17) (st' := [.int 0]) rfl rfl rfl ?_
    refine hp_s (pc' := 19) (ls' := [(5, .int 0), (4, .int (rI p 64 x.toInt.toNat)), (0, .ref 0), (1, .int x), (2, .int i), (3, .int w)]) (st' := []) rfl rfl rfl ?_
    refine hp_s (pc' := 20) (st' := [.int i]) rfl rfl rfl ?_
    refine hp_s (pc' := 22) (ls' := [(6, .int i), (5, .int 0), (4, .int (rI p 64 x.toInt.toNat)), (0, .ref 0), (1, .int x), (2, .int i), (3, .int w)]) (st' := []) rfl rfl rfl ?_
    exact lp_127a (p0 := p) (S := (rI p 13 7).toInt.toNat) (by omega) (by omega) (by omega) (by omega) (by omega) (by omega) (fun z c p2 e1 e2 e3 => k1 z c p2 (by omega) e1 e2 e3) n 0 _ _ _ rfl (by omega) (by omega) (fun k hk => absurd hk (by omega)) (hPx_0 (by omega))
  ·
    refine hp_s (pc' := 5) (st' := [.int 0]) rfl rfl rfl ?_
    refine hp_ri rfl rfl ?_
    first | (exact k0 (by first | assumption | omega)) | (exact k1 _ _ _ (by first | assumption | omega) (by first | assumption | omega) (by first | assumption | omega) (by first | assumption | omega)) | (exfalso; omega)
theorem X_people {ro : List (List Int32)} {n d : Nat} {p : xH} {Q : Option Value → xH → Prop} {x : Int32} {xi : Int} {i : Int32} {ii : Int} {w : Int32} {wi : Int} (hx : x.toInt = xi) (hi : i.toInt = ii) (hw : w.toInt = wi) (pre0 : 0 ≤ (rI p 64 xi.toNat).toInt) (pre1 : (rI p 64 xi.toNat).toInt ≤ 60) (pre2 : 0 ≤ (rI p 13 7).toInt) (k0 : (¬ (0 ≤ xi ∧ xi < 6 ∧ 1 ≤ wi ∧ wi ≤ 7)) → Q (some (.int (-1))) p) (k1 : (0 ≤ xi) → (xi < 6) → (1 ≤ wi) → (wi ≤ 7) → ((rI p 61 xi.toNat).toInt = 0) → Q (some (.int (0))) p) (k2 : (0 ≤ xi) → (xi < 6) → (1 ≤ wi) → (wi ≤ 7) → ((rI p 61 xi.toNat).toInt ≠ 0) → (¬ ((rI p 61 xi.toNat).toInt = 2 ∧ (rI p 63 xi.toNat).toInt = 0)) → Q (some (.int (-12))) p) (k3 : (0 ≤ xi) → (xi < 6) → (1 ≤ wi) → (wi ≤ 7) → ((rI p 61 xi.toNat).toInt = 2) → ((rI p 63 xi.toNat).toInt = 0) → (ii < 0) → Q (some (.int (0))) p) (k4 : ∀ z : Int32, ∀ c : Nat, ∀ p2 : xH, (0 ≤ xi) → (xi < 6) → (1 ≤ wi) → (wi ≤ 7) → ((rI p 61 xi.toNat).toInt = 2) → ((rI p 63 xi.toNat).toInt = 0) → (0 ≤ ii) → (z.toInt = c) → (hCnt 65 p xi ii (rI p 64 xi.toNat).toInt ((rI p 13 7).toInt.toNat : Int) wi c) → (hPx p p2 xi ii (rI p 13 7).toInt.toNat c) → Q (some (.int z)) p2) : hP ro n d (11, 4, 1, 1, k126) 0 (lv_args 0 [.ref 0, .int x, .int i, .int w]) [] p Q := by
  subst hx
  subst hi
  subst hw
  refine hp_id (ls := [(0, .ref 0), (1, .int x), (2, .int i), (3, .int w)]) ?_
  refine hp_s (pc' := 1) (st' := [.ref 0]) rfl rfl rfl ?_
  refine hp_getr (k := 13) (w := .ref 60) (pc' := 4) rfl rfl rfl rfl rfl ?_
  refine hp_s (pc' := 5) (st' := [.int x, .ref 60]) rfl rfl rfl ?_
  refine hp_cv (r := 60) (o := 6) (kd := 1) (as := [.int x]) (rest := []) (pc' := 8) rfl rfl rfl rfl rfl rfl rfl rfl rfl (fun d1 => ?_)
  refine s_isShelf (xi := x.toInt) rfl ?_ ?_
  ·
    intro h1 h2
    refine hp_id (st := [.int 1]) ?_
    refine hp_go (pc' := 11) rfl rfl rfl ?_
    refine hp_s (pc' := 12) (st' := [.int w]) rfl rfl rfl ?_
    refine hp_s (pc' := 13) (st' := [.int 1, .int w]) rfl rfl rfl ?_
    refine hp_ic (pc' := 16) (t := 22) (a := w.toInt) (b := 1) rfl rfl rfl rfl (by decide) (fun (h3 : w.toInt < 1) => ?_) (fun (h4 : ¬ (w.toInt < 1)) => ?_)
    ·
      refine hp_s (pc' := 23) (st' := [.int (-1)]) rfl rfl rfl ?_
      refine hp_ri rfl rfl ?_
      first | (exact k0 (by first | assumption | omega)) | (exact k4 _ _ _ (by first | assumption | omega) (by first | assumption | omega) (by first | assumption | omega) (by first | assumption | omega) (by first | assumption | omega) (by first | assumption | omega) (by first | assumption | omega) (by first | assumption | omega) (by first | assumption | omega) (by first | assumption | omega)) | (exfalso; omega)
    ·
      refine hp_s (pc' := 17) (st' := [.int w]) rfl rfl rfl ?_
      refine hp_s (pc' := 19) (st' := [.int 7, .int w]) rfl rfl rfl ?_
      refine hp_ic (pc' := 22) (t := 24) (a := w.toInt) (b := 7) rfl rfl rfl rfl (by decide) (fun (h5 : w.toInt ≤ 7) => ?_) (fun (h6 : ¬ (w.toInt ≤ 7)) => ?_)
      ·
        refine hp_s (pc' := 25) (st' := [.ref 0]) rfl rfl rfl ?_
        refine hp_getr (k := 13) (w := .ref 60) (pc' := 28) rfl rfl rfl rfl rfl ?_
        refine hp_s (pc' := 29) (st' := [.int x, .ref 60]) rfl rfl rfl ?_
        refine hp_cv (r := 60) (o := 6) (kd := 1) (as := [.int x]) (rest := []) (pc' := 32) rfl rfl rfl rfl rfl rfl rfl rfl rfl (fun d2 => ?_)
        refine s_isBare (xi := x.toInt) rfl ?_ ?_
        ·
          intro h7 h8 h9
          refine hp_id (st := [.int 1]) ?_
          refine hp_go (pc' := 35) rfl rfl rfl ?_
          refine hp_s (pc' := 36) (st' := [.int 0]) rfl rfl rfl ?_
          refine hp_ri rfl rfl ?_
          first | (exact k1 (by first | assumption | omega) (by first | assumption | omega) (by first | assumption | omega) (by first | assumption | omega) (by first | assumption | omega)) | (exact k3 (by first | assumption | omega) (by first | assumption | omega) (by first | assumption | omega) (by first | assumption | omega) (by first | assumption | omega) (by first | assumption | omega) (by first | assumption | omega)) | (exact k4 _ _ _ (by first | assumption | omega) (by first | assumption | omega) (by first | assumption | omega) (by first | assumption | omega) (by first | assumption | omega) (by first | assumption | omega) (by first | assumption | omega) (by first | assumption | omega) (by first | assumption | omega) (by first | assumption | omega)) | (exfalso; omega)
        ·
          intro h10 h11 h12
          refine hp_id (st := [.int 0]) ?_
          refine hp_go (pc' := 37) rfl rfl rfl ?_
          refine hp_s (pc' := 38) (st' := [.ref 0]) rfl rfl rfl ?_
          refine hp_getr (k := 13) (w := .ref 60) (pc' := 41) rfl rfl rfl rfl rfl ?_
          refine hp_s (pc' := 42) (st' := [.int x, .ref 60]) rfl rfl rfl ?_
          refine hp_s (pc' := 43) (st' := [.int 0, .int x, .ref 60]) rfl rfl rfl ?_
          refine hp_cv (r := 60) (o := 6) (kd := 1) (as := [.int x, .int 0]) (rest := []) (pc' := 46) rfl rfl rfl rfl rfl rfl rfl rfl rfl (fun d3 => ?_)
          refine s_isRowOf (xi := x.toInt) rfl (yi := 0) (by decide) ?_ ?_
          ·
            intro h13 h14 h15 h16
            refine hp_id (st := [.int 1]) ?_
            refine hp_go (pc' := 52) rfl rfl rfl ?_
            refine hp_s (pc' := 53) (st' := [.ref 0]) rfl rfl rfl ?_
            refine hp_s (pc' := 54) (st' := [.int x, .ref 0]) rfl rfl rfl ?_
            refine hp_s (pc' := 55) (st' := [.int i, .int x, .ref 0]) rfl rfl rfl ?_
            refine hp_s (pc' := 56) (st' := [.int w, .int i, .int x, .ref 0]) rfl rfl rfl ?_
            refine hp_cv (r := 0) (o := 11) (kd := 1) (as := [.int x, .int i, .int w]) (rest := []) (pc' := 59) rfl rfl rfl rfl rfl rfl rfl rfl rfl (fun d4 => ?_)
            refine s_comeFrom (xi := x.toInt) rfl (ii := i.toInt) rfl (wi := w.toInt) rfl (by first | assumption | omega) (by first | assumption | omega) (by first | assumption | omega) (by first | assumption | omega) (by first | assumption | omega) (by first | assumption | omega) ?_ ?_
            ·
              intro h17
              refine hp_id (st := [.int 0]) ?_
              refine hp_ri rfl rfl ?_
              first | (exact k1 (by first | assumption | omega) (by first | assumption | omega) (by first | assumption | omega) (by first | assumption | omega) (by first | assumption | omega)) | (exact k3 (by first | assumption | omega) (by first | assumption | omega) (by first | assumption | omega) (by first | assumption | omega) (by first | assumption | omega) (by first | assumption | omega) (by first | assumption | omega)) | (exact k4 _ _ _ (by first | assumption | omega) (by first | assumption | omega) (by first | assumption | omega) (by first | assumption | omega) (by first | assumption | omega) (by first | assumption | omega) (by first | assumption | omega) (by first | assumption | omega) (by first | assumption | omega) (by first | assumption | omega)) | (exfalso; omega)
            ·
              intro y1 y2 p1 h18 h19 h20 h21
              refine hp_id (st := [.int y1]) ?_
              refine hp_ri rfl rfl ?_
              first | (exact k0 (by first | assumption | omega)) | (exact k1 (by first | assumption | omega) (by first | assumption | omega) (by first | assumption | omega) (by first | assumption | omega) (by first | assumption | omega)) | (exact k2 (by first | assumption | omega) (by first | assumption | omega) (by first | assumption | omega) (by first | assumption | omega) (by first | assumption | omega) (by first | assumption | omega)) | (exact k3 (by first | assumption | omega) (by first | assumption | omega) (by first | assumption | omega) (by first | assumption | omega) (by first | assumption | omega) (by first | assumption | omega) (by first | assumption | omega)) | (exact k4 _ _ _ (by first | assumption | omega) (by first | assumption | omega) (by first | assumption | omega) (by first | assumption | omega) (by first | assumption | omega) (by first | assumption | omega) (by first | assumption | omega) (by first | assumption | omega) (by first | assumption | omega) (by first | assumption | omega)) | (exfalso; omega)
          ·
            intro h22 h23 h24
            refine hp_id (st := [.int 0]) ?_
            refine hp_go (pc' := 49) rfl rfl rfl ?_
            refine hp_s (pc' := 51) (st' := [.int (-12)]) rfl rfl rfl ?_
            refine hp_ri rfl rfl ?_
            first | (exact k2 (by first | assumption | omega) (by first | assumption | omega) (by first | assumption | omega) (by first | assumption | omega) (by first | assumption | omega) (by first | assumption | omega)) | (exact k4 _ _ _ (by first | assumption | omega) (by first | assumption | omega) (by first | assumption | omega) (by first | assumption | omega) (by first | assumption | omega) (by first | assumption | omega) (by first | assumption | omega) (by first | assumption | omega) (by first | assumption | omega) (by first | assumption | omega)) | (exfalso; omega)
      ·
        refine hp_s (pc' := 23) (st' := [.int (-1)]) rfl rfl rfl ?_
        refine hp_ri rfl rfl ?_
        first | (exact k0 (by first | assumption | omega)) | (exact k4 _ _ _ (by first | assumption | omega) (by first | assumption | omega) (by first | assumption | omega) (by first | assumption | omega) (by first | assumption | omega) (by first | assumption | omega) (by first | assumption | omega) (by first | assumption | omega) (by first | assumption | omega) (by first | assumption | omega)) | (exfalso; omega)
  ·
    intro h25
    refine hp_id (st := [.int 0]) ?_
    refine hp_go (pc' := 22) rfl rfl rfl ?_
    refine hp_s (pc' := 23) (st' := [.int (-1)]) rfl rfl rfl ?_
    refine hp_ri rfl rfl ?_
    first | (exact k0 (by first | assumption | omega)) | (exact k4 _ _ _ (by first | assumption | omega) (by first | assumption | omega) (by first | assumption | omega) (by first | assumption | omega) (by first | assumption | omega) (by first | assumption | omega) (by first | assumption | omega) (by first | assumption | omega) (by first | assumption | omega) (by first | assumption | omega)) | (exfalso; omega)
theorem lp_186b {ro : List (List Int32)} {d : Nat} {Q : Option Value → xH → Prop} {x i w : Int32} {p0 : xH} {S : Nat} (g0 : 0 ≤ x.toInt) (g1 : x.toInt < 6) (g2 : 0 ≤ i.toInt) (g3 : (rI p0 98 x.toInt.toNat).toInt ≤ 60) (g4 : 0 ≤ (rI p0 98 x.toInt.toNat).toInt) (g5 : w.toInt ≤ 7) (hS : (rI p0 66 6).toInt = S) (K : ∀ (z : Int32) (c : Nat) (p2 : xH), z.toInt = c → hCnt 99 p0 x.toInt i.toInt (rI p0 98 x.toInt.toNat).toInt S w.toInt c → hPm p0 p2 x.toInt i.toInt S c → Q (some (.int z)) p2) : ∀ (n : Nat) (c : Nat) (cc : Int32) (kk : Int32) (p : xH), (cc.toInt = c) → ((c : Int) ≤ w.toInt) → (∀ k, k < c → hOk 99 p0 x.toInt i.toInt (rI p0 98 x.toInt.toNat).toInt S k) → (hPm p0 p x.toInt i.toInt S c) → hP ro n d (12, 7, 1, 1, k186) 69 [(4, .int cc), (5, .int 1), (6, .int kk), (0, .ref 66), (1, .int x), (2, .int i), (3, .int w)] [] p Q := by
  intro n
  induction n with
  | zero => intros; exact hp_0
  | succ n ih =>
    intro c cc kk p hcc hcw hk hX
    refine hp_hw (fun wp => ?_)
    have hX2 := hX.2.1
    have hE : ∀ a, rJ p0 99 a = rJ p 99 a := fun a => (hX.1.long (r := 99) rfl).symm
    have h98 : (rI p 98 x.toInt.toNat).toInt = (rI p0 98 x.toInt.toNat).toInt := by rw [hX.1.int rfl]
    refine hp_s1 (pc' := 71) (st' := [.int 1]) rfl rfl rfl ?_
    refine hp_go (pc' := 74) rfl rfl rfl ?_
    refine hp_s (pc' := 76) (st' := [.int cc]) rfl rfl rfl ?_
    refine hp_s (pc' := 77) (st' := [.int w, .int cc]) rfl rfl rfl ?_
    refine hp_ic (pc' := 80) (t := 199) (a := cc.toInt) (b := w.toInt) rfl rfl rfl rfl rfl (fun (h1 : w.toInt ≤ cc.toInt) => ?_) (fun (h2 : ¬ (w.toInt ≤ cc.toInt)) => ?_)
    ·
      refine hp_s (pc' := 201) (st' := [.int cc]) rfl rfl rfl ?_
      refine hp_ri rfl rfl ?_
      first | (exfalso; omega) | (refine K _ c _ hcc ⟨by omega, hk, ?_⟩ hX; first | exact Or.inl (by omega) | exact Or.inr (fun z => by unfold hOk at z; omega))
    ·
      refine hp_s (pc' := 81) (st' := [.int i]) rfl rfl rfl ?_
      refine hp_s (pc' := 82) (st' := [.ref 66, .int i]) rfl rfl rfl ?_
      refine hp_getr (k := 51) (w := .ref 98) (pc' := 85) rfl rfl rfl rfl rfl ?_
      refine hp_s (pc' := 86) (st' := [.int x, .ref 98, .int i]) rfl rfl rfl ?_
      refine hp_ld (t := 100) (v := (rI p 98 x.toInt.toNat)) rfl (.inl rfl) rfl rfl rfl ?_
      intro (g1a : 0 ≤ x.toInt) (g1b : x.toInt < 6)
      refine hp_s (pc' := 88) (st' := [.int 2, .int (rI p 98 x.toInt.toNat), .int i]) rfl rfl rfl ?_
      refine hp_z (pc' := 89) (e := (rI p 98 x.toInt.toNat) - 2) (st' := [.int i]) rfl rfl rfl ?_
      intro z1 hz1
      have ez1 := i_sub hz1 (show (rI p 98 x.toInt.toNat).toInt = (rI p 98 x.toInt.toNat).toInt from rfl) (show (2 : Int32).toInt = 2 from by decide)
      refine hp_s (pc' := 90) (st' := [.int 2, .int z1, .int i]) rfl rfl rfl ?_
      refine hp_s (pc' := 92) (st' := [.int cc, .int 2, .int z1, .int i]) rfl rfl rfl ?_
      refine hp_z (pc' := 93) (e := 2 * cc) (st' := [.int z1, .int i]) rfl rfl rfl ?_
      intro z2 hz2
      have ez2 := i_mul hz2 (show (2 : Int32).toInt = 2 from by decide) (show cc.toInt = cc.toInt from rfl)
      refine hp_z (pc' := 94) (e := z1 - z2) (st' := [.int i]) rfl rfl rfl ?_
      intro z3 hz3
      have ez3 := i_sub hz3 (show z1.toInt = z1.toInt from rfl) (show z2.toInt = z2.toInt from rfl)
      refine hp_ic (pc' := 97) (t := 110) (a := i.toInt) (b := z3.toInt) rfl rfl rfl rfl rfl (fun (h3 : z3.toInt < i.toInt) => ?_) (fun (h4 : ¬ (z3.toInt < i.toInt)) => ?_)
      ·
        refine hp_s (pc' := 111) (st' := [.int 0]) rfl rfl rfl ?_
        refine hp_s (pc' := 113) (ls' := [(5, .int 0), (4, .int cc), (6, .int kk), (0, .ref 66), (1, .int x), (2, .int i), (3, .int w)]) (st' := []) rfl rfl rfl ?_
        refine hp_s (pc' := 115) (st' := [.int 60]) rfl rfl rfl ?_
        refine hp_s (pc' := 116) (st' := [.int x, .int 60]) rfl rfl rfl ?_
        refine hp_z (pc' := 117) (e := 60 * x) (st' := []) rfl rfl rfl ?_
        intro z4 hz4
        have ez4 := i_mul hz4 (show (60 : Int32).toInt = 60 from by decide) (show x.toInt = x.toInt from rfl)
        refine hp_s (pc' := 118) (st' := [.int i, .int z4]) rfl rfl rfl ?_
        refine hp_z (pc' := 119) (e := z4 + i) (st' := []) rfl rfl rfl ?_
        intro z5 hz5
        have ez5 := i_add hz5 (show z4.toInt = z4.toInt from rfl) (show i.toInt = i.toInt from rfl)
        refine hp_s (pc' := 120) (st' := [.int 2, .int z5]) rfl rfl rfl ?_
        refine hp_s (pc' := 122) (st' := [.int cc, .int 2, .int z5]) rfl rfl rfl ?_
        refine hp_z (pc' := 123) (e := 2 * cc) (st' := [.int z5]) rfl rfl rfl ?_
        intro z6 hz6
        have ez6 := i_mul hz6 (show (2 : Int32).toInt = 2 from by decide) (show cc.toInt = cc.toInt from rfl)
        refine hp_z (pc' := 124) (e := z5 + z6) (st' := []) rfl rfl rfl ?_
        intro z7 hz7
        have ez7 := i_add hz7 (show z5.toInt = z5.toInt from rfl) (show z6.toInt = z6.toInt from rfl)
        refine hp_s (pc' := 126) (ls' := [(6, .int z7), (5, .int 0), (4, .int cc), (0, .ref 66), (1, .int x), (2, .int i), (3, .int w)]) (st' := []) rfl rfl rfl ?_
        refine hp_s (pc' := 128) (st' := [.int 0]) rfl rfl rfl ?_
        refine hp_go (pc' := 163) rfl rfl rfl ?_
        refine hp_s (pc' := 164) (st' := [.int 0]) rfl rfl rfl ?_
        refine hp_s (pc' := 166) (ls' := [(5, .int 0), (6, .int z7), (4, .int cc), (0, .ref 66), (1, .int x), (2, .int i), (3, .int w)]) (st' := []) rfl rfl rfl ?_
        refine hp_s (pc' := 168) (st' := [.int 0]) rfl rfl rfl ?_
        refine hp_go (pc' := 196) rfl rfl rfl ?_
        refine hp_go (pc' := 69) rfl rfl rfl ?_
        refine hp_s (pc' := 71) (st' := [.int 0]) rfl rfl rfl ?_
        refine hp_go (pc' := 199) rfl rfl rfl ?_
        refine hp_s (pc' := 201) (st' := [.int cc]) rfl rfl rfl ?_
        refine hp_ri rfl rfl ?_
        first | (exfalso; omega) | (refine K _ c _ hcc ⟨by omega, hk, ?_⟩ hX; first | exact Or.inl (by omega) | exact Or.inr (fun z => by unfold hOk at z; omega))
      ·
        refine hp_s (pc' := 98) (st' := [.ref 66]) rfl rfl rfl ?_
        refine hp_get (k := 6) (pc' := 101) (v := (rI p 66 6)) rfl rfl rfl rfl rfl rfl ?_
        refine hp_s (pc' := 103) (st' := [.int 7, .int (rI p 66 6)]) rfl rfl rfl ?_
        refine hp_ic (pc' := 106) (t := 110) (a := (rI p 66 6).toInt) (b := 7) rfl rfl rfl rfl (by decide) (fun (h5 : 7 ≤ (rI p 66 6).toInt) => ?_) (fun (h6 : ¬ (7 ≤ (rI p 66 6).toInt)) => ?_)
        ·
          refine hp_s (pc' := 111) (st' := [.int 0]) rfl rfl rfl ?_
          refine hp_s (pc' := 113) (ls' := [(5, .int 0), (4, .int cc), (6, .int kk), (0, .ref 66), (1, .int x), (2, .int i), (3, .int w)]) (st' := []) rfl rfl rfl ?_
          refine hp_s (pc' := 115) (st' := [.int 60]) rfl rfl rfl ?_
          refine hp_s (pc' := 116) (st' := [.int x, .int 60]) rfl rfl rfl ?_
          refine hp_z (pc' := 117) (e := 60 * x) (st' := []) rfl rfl rfl ?_
          intro z8 hz8
          have ez8 := i_mul hz8 (show (60 : Int32).toInt = 60 from by decide) (show x.toInt = x.toInt from rfl)
          refine hp_s (pc' := 118) (st' := [.int i, .int z8]) rfl rfl rfl ?_
          refine hp_z (pc' := 119) (e := z8 + i) (st' := []) rfl rfl rfl ?_
          intro z9 hz9
          have ez9 := i_add hz9 (show z8.toInt = z8.toInt from rfl) (show i.toInt = i.toInt from rfl)
          refine hp_s (pc' := 120) (st' := [.int 2, .int z9]) rfl rfl rfl ?_
          refine hp_s (pc' := 122) (st' := [.int cc, .int 2, .int z9]) rfl rfl rfl ?_
          refine hp_z (pc' := 123) (e := 2 * cc) (st' := [.int z9]) rfl rfl rfl ?_
          intro z10 hz10
          have ez10 := i_mul hz10 (show (2 : Int32).toInt = 2 from by decide) (show cc.toInt = cc.toInt from rfl)
          refine hp_z (pc' := 124) (e := z9 + z10) (st' := []) rfl rfl rfl ?_
          intro z11 hz11
          have ez11 := i_add hz11 (show z9.toInt = z9.toInt from rfl) (show z10.toInt = z10.toInt from rfl)
          refine hp_s (pc' := 126) (ls' := [(6, .int z11), (5, .int 0), (4, .int cc), (0, .ref 66), (1, .int x), (2, .int i), (3, .int w)]) (st' := []) rfl rfl rfl ?_
          refine hp_s (pc' := 128) (st' := [.int 0]) rfl rfl rfl ?_
          refine hp_go (pc' := 163) rfl rfl rfl ?_
          refine hp_s (pc' := 164) (st' := [.int 0]) rfl rfl rfl ?_
          refine hp_s (pc' := 166) (ls' := [(5, .int 0), (6, .int z11), (4, .int cc), (0, .ref 66), (1, .int x), (2, .int i), (3, .int w)]) (st' := []) rfl rfl rfl ?_
          refine hp_s (pc' := 168) (st' := [.int 0]) rfl rfl rfl ?_
          refine hp_go (pc' := 196) rfl rfl rfl ?_
          refine hp_go (pc' := 69) rfl rfl rfl ?_
          refine hp_s (pc' := 71) (st' := [.int 0]) rfl rfl rfl ?_
          refine hp_go (pc' := 199) rfl rfl rfl ?_
          refine hp_s (pc' := 201) (st' := [.int cc]) rfl rfl rfl ?_
          refine hp_ri rfl rfl ?_
          first | (exfalso; omega) | (refine K _ c _ hcc ⟨by omega, hk, ?_⟩ hX; first | exact Or.inl (by omega) | exact Or.inr (fun z => by unfold hOk at z; omega))
        ·
          refine hp_s (pc' := 107) (st' := [.int 1]) rfl rfl rfl ?_
          refine hp_go (pc' := 111) rfl rfl rfl ?_
          refine hp_s (pc' := 113) (ls' := [(5, .int 1), (4, .int cc), (6, .int kk), (0, .ref 66), (1, .int x), (2, .int i), (3, .int w)]) (st' := []) rfl rfl rfl ?_
          refine hp_s (pc' := 115) (st' := [.int 60]) rfl rfl rfl ?_
          refine hp_s (pc' := 116) (st' := [.int x, .int 60]) rfl rfl rfl ?_
          refine hp_z (pc' := 117) (e := 60 * x) (st' := []) rfl rfl rfl ?_
          intro z12 hz12
          have ez12 := i_mul hz12 (show (60 : Int32).toInt = 60 from by decide) (show x.toInt = x.toInt from rfl)
          refine hp_s (pc' := 118) (st' := [.int i, .int z12]) rfl rfl rfl ?_
          refine hp_z (pc' := 119) (e := z12 + i) (st' := []) rfl rfl rfl ?_
          intro z13 hz13
          have ez13 := i_add hz13 (show z12.toInt = z12.toInt from rfl) (show i.toInt = i.toInt from rfl)
          refine hp_s (pc' := 120) (st' := [.int 2, .int z13]) rfl rfl rfl ?_
          refine hp_s (pc' := 122) (st' := [.int cc, .int 2, .int z13]) rfl rfl rfl ?_
          refine hp_z (pc' := 123) (e := 2 * cc) (st' := [.int z13]) rfl rfl rfl ?_
          intro z14 hz14
          have ez14 := i_mul hz14 (show (2 : Int32).toInt = 2 from by decide) (show cc.toInt = cc.toInt from rfl)
          refine hp_z (pc' := 124) (e := z13 + z14) (st' := []) rfl rfl rfl ?_
          intro z15 hz15
          have ez15 := i_add hz15 (show z13.toInt = z13.toInt from rfl) (show z14.toInt = z14.toInt from rfl)
          refine hp_s (pc' := 126) (ls' := [(6, .int z15), (5, .int 1), (4, .int cc), (0, .ref 66), (1, .int x), (2, .int i), (3, .int w)]) (st' := []) rfl rfl rfl ?_
          refine hp_s (pc' := 128) (st' := [.int 1]) rfl rfl rfl ?_
          refine hp_go (pc' := 131) rfl rfl rfl ?_
          refine hp_s (pc' := 132) (st' := [.ref 66]) rfl rfl rfl ?_
          refine hp_getr (k := 52) (w := .ref 99) (pc' := 135) rfl rfl rfl rfl rfl ?_
          refine hp_s (pc' := 137) (st' := [.int z15, .ref 99]) rfl rfl rfl ?_
          refine hp_ldl (v := (rJ p 99 z15.toInt.toNat)) rfl rfl rfl rfl ?_
          intro (g2a : 0 ≤ z15.toInt) (g2b : z15.toInt < 360)
          have q1 : (rJ p0 99 (60 * x.toInt.toNat + (i.toInt.toNat + 2 * c))).toInt = (rJ p 99 z15.toInt.toNat).toInt := by rw [hE]; congr 2; omega
          refine hp_cs (kd := 0) (as := [.long (rJ p 99 z15.toInt.toNat)]) (rest := []) (pc' := 141) rfl rfl rfl rfl rfl rfl rfl (fun d1 => ?_)
          refine s_areLooks (xi := (rJ p 99 z15.toInt.toNat).toInt) rfl ?_ ?_
          ·
            intro h7 h8
            refine hp_id (st := [.int 1]) ?_
            refine hp_go (pc' := 144) rfl rfl rfl ?_
            refine hp_s (pc' := 145) (st' := [.ref 66]) rfl rfl rfl ?_
            refine hp_getr (k := 52) (w := .ref 99) (pc' := 148) rfl rfl rfl rfl rfl ?_
            refine hp_s (pc' := 150) (st' := [.int z15, .ref 99]) rfl rfl rfl ?_
            refine hp_s (pc' := 151) (st' := [.int 1, .int z15, .ref 99]) rfl rfl rfl ?_
            refine hp_z (pc' := 152) (e := z15 + 1) (st' := [.ref 99]) rfl rfl rfl ?_
            intro z16 hz16
            have ez16 := i_add hz16 (show z15.toInt = z15.toInt from rfl) (show (1 : Int32).toInt = 1 from by decide)
            refine hp_ldl (v := (rJ p 99 z16.toInt.toNat)) rfl rfl rfl rfl ?_
            intro (g3a : 0 ≤ z16.toInt) (g3b : z16.toInt < 360)
            have q2 : (rJ p0 99 (60 * x.toInt.toNat + (i.toInt.toNat + 2 * c + 1))).toInt = (rJ p 99 z16.toInt.toNat).toInt := by rw [hE]; congr 2; omega
            refine hp_cs (kd := 0) (as := [.long (rJ p 99 z16.toInt.toNat)]) (rest := []) (pc' := 156) rfl rfl rfl rfl rfl rfl rfl (fun d2 => ?_)
            refine s_areLooks (xi := (rJ p 99 z16.toInt.toNat).toInt) rfl ?_ ?_
            ·
              intro h9 h10
              refine hp_id (st := [.int 1]) ?_
              refine hp_go (pc' := 159) rfl rfl rfl ?_
              refine hp_s (pc' := 160) (st' := [.int 1]) rfl rfl rfl ?_
              refine hp_go (pc' := 164) rfl rfl rfl ?_
              refine hp_s (pc' := 166) (ls' := [(5, .int 1), (6, .int z15), (4, .int cc), (0, .ref 66), (1, .int x), (2, .int i), (3, .int w)]) (st' := []) rfl rfl rfl ?_
              refine hp_s (pc' := 168) (st' := [.int 1]) rfl rfl rfl ?_
              refine hp_go (pc' := 171) rfl rfl rfl ?_
              refine hp_s (pc' := 172) (st' := [.ref 66]) rfl rfl rfl ?_
              refine hp_s (pc' := 173) (st' := [.ref 66, .ref 66]) rfl rfl rfl ?_
              refine hp_getr (k := 52) (w := .ref 99) (pc' := 176) rfl rfl rfl rfl rfl ?_
              refine hp_s (pc' := 178) (st' := [.int z15, .ref 99, .ref 66]) rfl rfl rfl ?_
              refine hp_ldl (v := (rJ p 99 z15.toInt.toNat)) rfl rfl rfl rfl ?_
              intro (g4a : 0 ≤ z15.toInt) (g4b : z15.toInt < 360)
              refine hp_z (pc' := 180) (e := (rJ p 99 z15.toInt.toNat).toInt32) (st' := [.ref 66]) rfl rfl rfl ?_
              intro z17 hz17
              refine hp_s (pc' := 181) (st' := [.ref 66, .int z17, .ref 66]) rfl rfl rfl ?_
              refine hp_getr (k := 52) (w := .ref 99) (pc' := 184) rfl rfl rfl rfl rfl ?_
              refine hp_s (pc' := 186) (st' := [.int z15, .ref 99, .int z17, .ref 66]) rfl rfl rfl ?_
              refine hp_s (pc' := 187) (st' := [.int 1, .int z15, .ref 99, .int z17, .ref 66]) rfl rfl rfl ?_
              refine hp_z (pc' := 188) (e := z15 + 1) (st' := [.ref 99, .int z17, .ref 66]) rfl rfl rfl ?_
              intro z18 hz18
              have ez18 := i_add hz18 (show z15.toInt = z15.toInt from rfl) (show (1 : Int32).toInt = 1 from by decide)
              refine hp_ldl (v := (rJ p 99 z18.toInt.toNat)) rfl rfl rfl rfl ?_
              intro (g5a : 0 ≤ z18.toInt) (g5b : z18.toInt < 360)
              refine hp_z (pc' := 190) (e := (rJ p 99 z18.toInt.toNat).toInt32) (st' := [.int z17, .ref 66]) rfl rfl rfl ?_
              intro z19 hz19
              refine hp_cv (r := 66) (o := 12) (kd := 1) (as := [.int z17, .int z19]) (rest := []) (pc' := 193) rfl rfl rfl rfl rfl rfl rfl rfl rfl (fun d3 => ?_)
              refine s_adds (xi := z17.toInt) rfl (yi := z19.toInt) rfl (by first | assumption | omega) (by first | assumption | omega) ?_
              intro p1 ep1 h11
              refine hp_id (st := []) ?_
              refine hp_inc (L := fun z => [(4, .int z), (5, .int 1), (6, .int z15), (0, .ref 66), (1, .int x), (2, .int i), (3, .int w)]) (pc' := 196) rfl rfl rfl (fun _ => rfl) rfl ?_
              intro z20 hz20
              have ez20 := i_add hz20 (show cc.toInt = cc.toInt from rfl) (show (Int32.ofInt 1).toInt = 1 from by decide)
              refine hp_go (pc' := 69) rfl rfl rfl ?_
              have hX2 := hPm_s hX wp (by omega) (u := z17) (v := z19) (by rw [hz17, ← hE]; congr 2; omega) (by rw [hz19, ← hE]; congr 2; omega) ep1
              exact ih (c + 1) _ _ _ (by push_cast; omega) (by push_cast; omega) (fun k hk2 => by rcases Nat.lt_or_ge k c with z | z; exact hk k z; rw [show k = c by omega]; unfold hOk; omega) hX2
            ·
              intro h12
              refine hp_id (st := [.int 0]) ?_
              refine hp_go (pc' := 163) rfl rfl rfl ?_
              refine hp_s (pc' := 164) (st' := [.int 0]) rfl rfl rfl ?_
              refine hp_s (pc' := 166) (ls' := [(5, .int 0), (6, .int z15), (4, .int cc), (0, .ref 66), (1, .int x), (2, .int i), (3, .int w)]) (st' := []) rfl rfl rfl ?_
              refine hp_s (pc' := 168) (st' := [.int 0]) rfl rfl rfl ?_
              refine hp_go (pc' := 196) rfl rfl rfl ?_
              refine hp_go (pc' := 69) rfl rfl rfl ?_
              refine hp_s (pc' := 71) (st' := [.int 0]) rfl rfl rfl ?_
              refine hp_go (pc' := 199) rfl rfl rfl ?_
              refine hp_s (pc' := 201) (st' := [.int cc]) rfl rfl rfl ?_
              refine hp_ri rfl rfl ?_
              first | (exfalso; omega) | (refine K _ c _ hcc ⟨by omega, hk, ?_⟩ hX; first | exact Or.inl (by omega) | exact Or.inr (fun z => by unfold hOk at z; omega))
          ·
            intro h13
            refine hp_id (st := [.int 0]) ?_
            refine hp_go (pc' := 163) rfl rfl rfl ?_
            refine hp_s (pc' := 164) (st' := [.int 0]) rfl rfl rfl ?_
            refine hp_s (pc' := 166) (ls' := [(5, .int 0), (6, .int z15), (4, .int cc), (0, .ref 66), (1, .int x), (2, .int i), (3, .int w)]) (st' := []) rfl rfl rfl ?_
            refine hp_s (pc' := 168) (st' := [.int 0]) rfl rfl rfl ?_
            refine hp_go (pc' := 196) rfl rfl rfl ?_
            refine hp_go (pc' := 69) rfl rfl rfl ?_
            refine hp_s (pc' := 71) (st' := [.int 0]) rfl rfl rfl ?_
            refine hp_go (pc' := 199) rfl rfl rfl ?_
            refine hp_s (pc' := 201) (st' := [.int cc]) rfl rfl rfl ?_
            refine hp_ri rfl rfl ?_
            first | (exfalso; omega) | (refine K _ c _ hcc ⟨by omega, hk, ?_⟩ hX; first | exact Or.inl (by omega) | exact Or.inr (fun z => by unfold hOk at z; omega))
theorem lp_186a {ro : List (List Int32)} {d : Nat} {Q : Option Value → xH → Prop} {x i w : Int32} {p0 : xH} {S : Nat} (g0 : 0 ≤ x.toInt) (g1 : x.toInt < 6) (g2 : 0 ≤ i.toInt) (g3 : (rI p0 98 x.toInt.toNat).toInt ≤ 60) (g4 : 0 ≤ (rI p0 98 x.toInt.toNat).toInt) (g5 : w.toInt ≤ 7) (hS : (rI p0 66 6).toInt = S) (K : ∀ (z : Int32) (c : Nat) (p2 : xH), z.toInt = c → hCnt 99 p0 x.toInt i.toInt (rI p0 98 x.toInt.toNat).toInt S w.toInt c → hPm p0 p2 x.toInt i.toInt S c → Q (some (.int z)) p2) : ∀ (n : Nat) (c : Nat) (cc : Int32) (p : xH), (cc.toInt = c) → ((c : Int) ≤ w.toInt) → (∀ k, k < c → hOk 99 p0 x.toInt i.toInt (rI p0 98 x.toInt.toNat).toInt S k) → (hPm p0 p x.toInt i.toInt S c) → hP ro n d (12, 7, 1, 1, k186) 69 [(5, .int 1), (4, .int cc), (0, .ref 66), (1, .int x), (2, .int i), (3, .int w)] [] p Q := by
  intro n
  intro c cc p hcc hcw hk hX
  refine hp_hw (fun wp => ?_)
  have hX2 := hX.2.1
  have hE : ∀ a, rJ p0 99 a = rJ p 99 a := fun a => (hX.1.long (r := 99) rfl).symm
  have h98 : (rI p 98 x.toInt.toNat).toInt = (rI p0 98 x.toInt.toNat).toInt := by rw [hX.1.int rfl]
  refine hp_s (pc' := 71) (st' := [.int 1]) rfl rfl rfl ?_
  refine hp_go (pc' := 74) rfl rfl rfl ?_
  refine hp_s (pc' := 76) (st' := [.int cc]) rfl rfl rfl ?_
  refine hp_s (pc' := 77) (st' := [.int w, .int cc]) rfl rfl rfl ?_
  refine hp_ic (pc' := 80) (t := 199) (a := cc.toInt) (b := w.toInt) rfl rfl rfl rfl rfl (fun (h1 : w.toInt ≤ cc.toInt) => ?_) (fun (h2 : ¬ (w.toInt ≤ cc.toInt)) => ?_)
  ·
    refine hp_s (pc' := 201) (st' := [.int cc]) rfl rfl rfl ?_
    refine hp_ri rfl rfl ?_
    first | (exfalso; omega) | (refine K _ c _ hcc ⟨by omega, hk, ?_⟩ hX; first | exact Or.inl (by omega) | exact Or.inr (fun z => by unfold hOk at z; omega))
  ·
    refine hp_s (pc' := 81) (st' := [.int i]) rfl rfl rfl ?_
    refine hp_s (pc' := 82) (st' := [.ref 66, .int i]) rfl rfl rfl ?_
    refine hp_getr (k := 51) (w := .ref 98) (pc' := 85) rfl rfl rfl rfl rfl ?_
    refine hp_s (pc' := 86) (st' := [.int x, .ref 98, .int i]) rfl rfl rfl ?_
    refine hp_ld (t := 100) (v := (rI p 98 x.toInt.toNat)) rfl (.inl rfl) rfl rfl rfl ?_
    intro (g1a : 0 ≤ x.toInt) (g1b : x.toInt < 6)
    refine hp_s (pc' := 88) (st' := [.int 2, .int (rI p 98 x.toInt.toNat), .int i]) rfl rfl rfl ?_
    refine hp_z (pc' := 89) (e := (rI p 98 x.toInt.toNat) - 2) (st' := [.int i]) rfl rfl rfl ?_
    intro z1 hz1
    have ez1 := i_sub hz1 (show (rI p 98 x.toInt.toNat).toInt = (rI p 98 x.toInt.toNat).toInt from rfl) (show (2 : Int32).toInt = 2 from by decide)
    refine hp_s (pc' := 90) (st' := [.int 2, .int z1, .int i]) rfl rfl rfl ?_
    refine hp_s (pc' := 92) (st' := [.int cc, .int 2, .int z1, .int i]) rfl rfl rfl ?_
    refine hp_z (pc' := 93) (e := 2 * cc) (st' := [.int z1, .int i]) rfl rfl rfl ?_
    intro z2 hz2
    have ez2 := i_mul hz2 (show (2 : Int32).toInt = 2 from by decide) (show cc.toInt = cc.toInt from rfl)
    refine hp_z (pc' := 94) (e := z1 - z2) (st' := [.int i]) rfl rfl rfl ?_
    intro z3 hz3
    have ez3 := i_sub hz3 (show z1.toInt = z1.toInt from rfl) (show z2.toInt = z2.toInt from rfl)
    refine hp_ic (pc' := 97) (t := 110) (a := i.toInt) (b := z3.toInt) rfl rfl rfl rfl rfl (fun (h3 : z3.toInt < i.toInt) => ?_) (fun (h4 : ¬ (z3.toInt < i.toInt)) => ?_)
    ·
      refine hp_s (pc' := 111) (st' := [.int 0]) rfl rfl rfl ?_
      refine hp_s (pc' := 113) (ls' := [(5, .int 0), (4, .int cc), (0, .ref 66), (1, .int x), (2, .int i), (3, .int w)]) (st' := []) rfl rfl rfl ?_
      refine hp_s (pc' := 115) (st' := [.int 60]) rfl rfl rfl ?_
      refine hp_s (pc' := 116) (st' := [.int x, .int 60]) rfl rfl rfl ?_
      refine hp_z (pc' := 117) (e := 60 * x) (st' := []) rfl rfl rfl ?_
      intro z4 hz4
      have ez4 := i_mul hz4 (show (60 : Int32).toInt = 60 from by decide) (show x.toInt = x.toInt from rfl)
      refine hp_s (pc' := 118) (st' := [.int i, .int z4]) rfl rfl rfl ?_
      refine hp_z (pc' := 119) (e := z4 + i) (st' := []) rfl rfl rfl ?_
      intro z5 hz5
      have ez5 := i_add hz5 (show z4.toInt = z4.toInt from rfl) (show i.toInt = i.toInt from rfl)
      refine hp_s (pc' := 120) (st' := [.int 2, .int z5]) rfl rfl rfl ?_
      refine hp_s (pc' := 122) (st' := [.int cc, .int 2, .int z5]) rfl rfl rfl ?_
      refine hp_z (pc' := 123) (e := 2 * cc) (st' := [.int z5]) rfl rfl rfl ?_
      intro z6 hz6
      have ez6 := i_mul hz6 (show (2 : Int32).toInt = 2 from by decide) (show cc.toInt = cc.toInt from rfl)
      refine hp_z (pc' := 124) (e := z5 + z6) (st' := []) rfl rfl rfl ?_
      intro z7 hz7
      have ez7 := i_add hz7 (show z5.toInt = z5.toInt from rfl) (show z6.toInt = z6.toInt from rfl)
      refine hp_s (pc' := 126) (ls' := [(6, .int z7), (5, .int 0), (4, .int cc), (0, .ref 66), (1, .int x), (2, .int i), (3, .int w)]) (st' := []) rfl rfl rfl ?_
      refine hp_s (pc' := 128) (st' := [.int 0]) rfl rfl rfl ?_
      refine hp_go (pc' := 163) rfl rfl rfl ?_
      refine hp_s (pc' := 164) (st' := [.int 0]) rfl rfl rfl ?_
      refine hp_s (pc' := 166) (ls' := [(5, .int 0), (6, .int z7), (4, .int cc), (0, .ref 66), (1, .int x), (2, .int i), (3, .int w)]) (st' := []) rfl rfl rfl ?_
      refine hp_s (pc' := 168) (st' := [.int 0]) rfl rfl rfl ?_
      refine hp_go (pc' := 196) rfl rfl rfl ?_
      refine hp_go (pc' := 69) rfl rfl rfl ?_
      refine hp_s (pc' := 71) (st' := [.int 0]) rfl rfl rfl ?_
      refine hp_go (pc' := 199) rfl rfl rfl ?_
      refine hp_s (pc' := 201) (st' := [.int cc]) rfl rfl rfl ?_
      refine hp_ri rfl rfl ?_
      first | (exfalso; omega) | (refine K _ c _ hcc ⟨by omega, hk, ?_⟩ hX; first | exact Or.inl (by omega) | exact Or.inr (fun z => by unfold hOk at z; omega))
    ·
      refine hp_s (pc' := 98) (st' := [.ref 66]) rfl rfl rfl ?_
      refine hp_get (k := 6) (pc' := 101) (v := (rI p 66 6)) rfl rfl rfl rfl rfl rfl ?_
      refine hp_s (pc' := 103) (st' := [.int 7, .int (rI p 66 6)]) rfl rfl rfl ?_
      refine hp_ic (pc' := 106) (t := 110) (a := (rI p 66 6).toInt) (b := 7) rfl rfl rfl rfl (by decide) (fun (h5 : 7 ≤ (rI p 66 6).toInt) => ?_) (fun (h6 : ¬ (7 ≤ (rI p 66 6).toInt)) => ?_)
      ·
        refine hp_s (pc' := 111) (st' := [.int 0]) rfl rfl rfl ?_
        refine hp_s (pc' := 113) (ls' := [(5, .int 0), (4, .int cc), (0, .ref 66), (1, .int x), (2, .int i), (3, .int w)]) (st' := []) rfl rfl rfl ?_
        refine hp_s (pc' := 115) (st' := [.int 60]) rfl rfl rfl ?_
        refine hp_s (pc' := 116) (st' := [.int x, .int 60]) rfl rfl rfl ?_
        refine hp_z (pc' := 117) (e := 60 * x) (st' := []) rfl rfl rfl ?_
        intro z8 hz8
        have ez8 := i_mul hz8 (show (60 : Int32).toInt = 60 from by decide) (show x.toInt = x.toInt from rfl)
        refine hp_s (pc' := 118) (st' := [.int i, .int z8]) rfl rfl rfl ?_
        refine hp_z (pc' := 119) (e := z8 + i) (st' := []) rfl rfl rfl ?_
        intro z9 hz9
        have ez9 := i_add hz9 (show z8.toInt = z8.toInt from rfl) (show i.toInt = i.toInt from rfl)
        refine hp_s (pc' := 120) (st' := [.int 2, .int z9]) rfl rfl rfl ?_
        refine hp_s (pc' := 122) (st' := [.int cc, .int 2, .int z9]) rfl rfl rfl ?_
        refine hp_z (pc' := 123) (e := 2 * cc) (st' := [.int z9]) rfl rfl rfl ?_
        intro z10 hz10
        have ez10 := i_mul hz10 (show (2 : Int32).toInt = 2 from by decide) (show cc.toInt = cc.toInt from rfl)
        refine hp_z (pc' := 124) (e := z9 + z10) (st' := []) rfl rfl rfl ?_
        intro z11 hz11
        have ez11 := i_add hz11 (show z9.toInt = z9.toInt from rfl) (show z10.toInt = z10.toInt from rfl)
        refine hp_s (pc' := 126) (ls' := [(6, .int z11), (5, .int 0), (4, .int cc), (0, .ref 66), (1, .int x), (2, .int i), (3, .int w)]) (st' := []) rfl rfl rfl ?_
        refine hp_s (pc' := 128) (st' := [.int 0]) rfl rfl rfl ?_
        refine hp_go (pc' := 163) rfl rfl rfl ?_
        refine hp_s (pc' := 164) (st' := [.int 0]) rfl rfl rfl ?_
        refine hp_s (pc' := 166) (ls' := [(5, .int 0), (6, .int z11), (4, .int cc), (0, .ref 66), (1, .int x), (2, .int i), (3, .int w)]) (st' := []) rfl rfl rfl ?_
        refine hp_s (pc' := 168) (st' := [.int 0]) rfl rfl rfl ?_
        refine hp_go (pc' := 196) rfl rfl rfl ?_
        refine hp_go (pc' := 69) rfl rfl rfl ?_
        refine hp_s (pc' := 71) (st' := [.int 0]) rfl rfl rfl ?_
        refine hp_go (pc' := 199) rfl rfl rfl ?_
        refine hp_s (pc' := 201) (st' := [.int cc]) rfl rfl rfl ?_
        refine hp_ri rfl rfl ?_
        first | (exfalso; omega) | (refine K _ c _ hcc ⟨by omega, hk, ?_⟩ hX; first | exact Or.inl (by omega) | exact Or.inr (fun z => by unfold hOk at z; omega))
      ·
        refine hp_s (pc' := 107) (st' := [.int 1]) rfl rfl rfl ?_
        refine hp_go (pc' := 111) rfl rfl rfl ?_
        refine hp_s (pc' := 113) (ls' := [(5, .int 1), (4, .int cc), (0, .ref 66), (1, .int x), (2, .int i), (3, .int w)]) (st' := []) rfl rfl rfl ?_
        refine hp_s (pc' := 115) (st' := [.int 60]) rfl rfl rfl ?_
        refine hp_s (pc' := 116) (st' := [.int x, .int 60]) rfl rfl rfl ?_
        refine hp_z (pc' := 117) (e := 60 * x) (st' := []) rfl rfl rfl ?_
        intro z12 hz12
        have ez12 := i_mul hz12 (show (60 : Int32).toInt = 60 from by decide) (show x.toInt = x.toInt from rfl)
        refine hp_s (pc' := 118) (st' := [.int i, .int z12]) rfl rfl rfl ?_
        refine hp_z (pc' := 119) (e := z12 + i) (st' := []) rfl rfl rfl ?_
        intro z13 hz13
        have ez13 := i_add hz13 (show z12.toInt = z12.toInt from rfl) (show i.toInt = i.toInt from rfl)
        refine hp_s (pc' := 120) (st' := [.int 2, .int z13]) rfl rfl rfl ?_
        refine hp_s (pc' := 122) (st' := [.int cc, .int 2, .int z13]) rfl rfl rfl ?_
        refine hp_z (pc' := 123) (e := 2 * cc) (st' := [.int z13]) rfl rfl rfl ?_
        intro z14 hz14
        have ez14 := i_mul hz14 (show (2 : Int32).toInt = 2 from by decide) (show cc.toInt = cc.toInt from rfl)
        refine hp_z (pc' := 124) (e := z13 + z14) (st' := []) rfl rfl rfl ?_
        intro z15 hz15
        have ez15 := i_add hz15 (show z13.toInt = z13.toInt from rfl) (show z14.toInt = z14.toInt from rfl)
        refine hp_s (pc' := 126) (ls' := [(6, .int z15), (5, .int 1), (4, .int cc), (0, .ref 66), (1, .int x), (2, .int i), (3, .int w)]) (st' := []) rfl rfl rfl ?_
        refine hp_s (pc' := 128) (st' := [.int 1]) rfl rfl rfl ?_
        refine hp_go (pc' := 131) rfl rfl rfl ?_
        refine hp_s (pc' := 132) (st' := [.ref 66]) rfl rfl rfl ?_
        refine hp_getr (k := 52) (w := .ref 99) (pc' := 135) rfl rfl rfl rfl rfl ?_
        refine hp_s (pc' := 137) (st' := [.int z15, .ref 99]) rfl rfl rfl ?_
        refine hp_ldl (v := (rJ p 99 z15.toInt.toNat)) rfl rfl rfl rfl ?_
        intro (g2a : 0 ≤ z15.toInt) (g2b : z15.toInt < 360)
        have q1 : (rJ p0 99 (60 * x.toInt.toNat + (i.toInt.toNat + 2 * c))).toInt = (rJ p 99 z15.toInt.toNat).toInt := by rw [hE]; congr 2; omega
        refine hp_cs (kd := 0) (as := [.long (rJ p 99 z15.toInt.toNat)]) (rest := []) (pc' := 141) rfl rfl rfl rfl rfl rfl rfl (fun d1 => ?_)
        refine s_areLooks (xi := (rJ p 99 z15.toInt.toNat).toInt) rfl ?_ ?_
        ·
          intro h7 h8
          refine hp_id (st := [.int 1]) ?_
          refine hp_go (pc' := 144) rfl rfl rfl ?_
          refine hp_s (pc' := 145) (st' := [.ref 66]) rfl rfl rfl ?_
          refine hp_getr (k := 52) (w := .ref 99) (pc' := 148) rfl rfl rfl rfl rfl ?_
          refine hp_s (pc' := 150) (st' := [.int z15, .ref 99]) rfl rfl rfl ?_
          refine hp_s (pc' := 151) (st' := [.int 1, .int z15, .ref 99]) rfl rfl rfl ?_
          refine hp_z (pc' := 152) (e := z15 + 1) (st' := [.ref 99]) rfl rfl rfl ?_
          intro z16 hz16
          have ez16 := i_add hz16 (show z15.toInt = z15.toInt from rfl) (show (1 : Int32).toInt = 1 from by decide)
          refine hp_ldl (v := (rJ p 99 z16.toInt.toNat)) rfl rfl rfl rfl ?_
          intro (g3a : 0 ≤ z16.toInt) (g3b : z16.toInt < 360)
          have q2 : (rJ p0 99 (60 * x.toInt.toNat + (i.toInt.toNat + 2 * c + 1))).toInt = (rJ p 99 z16.toInt.toNat).toInt := by rw [hE]; congr 2; omega
          refine hp_cs (kd := 0) (as := [.long (rJ p 99 z16.toInt.toNat)]) (rest := []) (pc' := 156) rfl rfl rfl rfl rfl rfl rfl (fun d2 => ?_)
          refine s_areLooks (xi := (rJ p 99 z16.toInt.toNat).toInt) rfl ?_ ?_
          ·
            intro h9 h10
            refine hp_id (st := [.int 1]) ?_
            refine hp_go (pc' := 159) rfl rfl rfl ?_
            refine hp_s (pc' := 160) (st' := [.int 1]) rfl rfl rfl ?_
            refine hp_go (pc' := 164) rfl rfl rfl ?_
            refine hp_s (pc' := 166) (ls' := [(5, .int 1), (6, .int z15), (4, .int cc), (0, .ref 66), (1, .int x), (2, .int i), (3, .int w)]) (st' := []) rfl rfl rfl ?_
            refine hp_s (pc' := 168) (st' := [.int 1]) rfl rfl rfl ?_
            refine hp_go (pc' := 171) rfl rfl rfl ?_
            refine hp_s (pc' := 172) (st' := [.ref 66]) rfl rfl rfl ?_
            refine hp_s (pc' := 173) (st' := [.ref 66, .ref 66]) rfl rfl rfl ?_
            refine hp_getr (k := 52) (w := .ref 99) (pc' := 176) rfl rfl rfl rfl rfl ?_
            refine hp_s (pc' := 178) (st' := [.int z15, .ref 99, .ref 66]) rfl rfl rfl ?_
            refine hp_ldl (v := (rJ p 99 z15.toInt.toNat)) rfl rfl rfl rfl ?_
            intro (g4a : 0 ≤ z15.toInt) (g4b : z15.toInt < 360)
            refine hp_z (pc' := 180) (e := (rJ p 99 z15.toInt.toNat).toInt32) (st' := [.ref 66]) rfl rfl rfl ?_
            intro z17 hz17
            refine hp_s (pc' := 181) (st' := [.ref 66, .int z17, .ref 66]) rfl rfl rfl ?_
            refine hp_getr (k := 52) (w := .ref 99) (pc' := 184) rfl rfl rfl rfl rfl ?_
            refine hp_s (pc' := 186) (st' := [.int z15, .ref 99, .int z17, .ref 66]) rfl rfl rfl ?_
            refine hp_s (pc' := 187) (st' := [.int 1, .int z15, .ref 99, .int z17, .ref 66]) rfl rfl rfl ?_
            refine hp_z (pc' := 188) (e := z15 + 1) (st' := [.ref 99, .int z17, .ref 66]) rfl rfl rfl ?_
            intro z18 hz18
            have ez18 := i_add hz18 (show z15.toInt = z15.toInt from rfl) (show (1 : Int32).toInt = 1 from by decide)
            refine hp_ldl (v := (rJ p 99 z18.toInt.toNat)) rfl rfl rfl rfl ?_
            intro (g5a : 0 ≤ z18.toInt) (g5b : z18.toInt < 360)
            refine hp_z (pc' := 190) (e := (rJ p 99 z18.toInt.toNat).toInt32) (st' := [.int z17, .ref 66]) rfl rfl rfl ?_
            intro z19 hz19
            refine hp_cv (r := 66) (o := 12) (kd := 1) (as := [.int z17, .int z19]) (rest := []) (pc' := 193) rfl rfl rfl rfl rfl rfl rfl rfl rfl (fun d3 => ?_)
            refine s_adds (xi := z17.toInt) rfl (yi := z19.toInt) rfl (by first | assumption | omega) (by first | assumption | omega) ?_
            intro p1 ep1 h11
            refine hp_id (st := []) ?_
            refine hp_inc (L := fun z => [(4, .int z), (5, .int 1), (6, .int z15), (0, .ref 66), (1, .int x), (2, .int i), (3, .int w)]) (pc' := 196) rfl rfl rfl (fun _ => rfl) rfl ?_
            intro z20 hz20
            have ez20 := i_add hz20 (show cc.toInt = cc.toInt from rfl) (show (Int32.ofInt 1).toInt = 1 from by decide)
            refine hp_go (pc' := 69) rfl rfl rfl ?_
            have hX2 := hPm_s hX wp (by omega) (u := z17) (v := z19) (by rw [hz17, ← hE]; congr 2; omega) (by rw [hz19, ← hE]; congr 2; omega) ep1
            exact lp_186b g0 g1 g2 g3 g4 g5 hS K n (c + 1) _ _ _ (by push_cast; omega) (by push_cast; omega) (fun k hk2 => by rcases Nat.lt_or_ge k c with z | z; exact hk k z; rw [show k = c by omega]; unfold hOk; omega) hX2
          ·
            intro h12
            refine hp_id (st := [.int 0]) ?_
            refine hp_go (pc' := 163) rfl rfl rfl ?_
            refine hp_s (pc' := 164) (st' := [.int 0]) rfl rfl rfl ?_
            refine hp_s (pc' := 166) (ls' := [(5, .int 0), (6, .int z15), (4, .int cc), (0, .ref 66), (1, .int x), (2, .int i), (3, .int w)]) (st' := []) rfl rfl rfl ?_
            refine hp_s (pc' := 168) (st' := [.int 0]) rfl rfl rfl ?_
            refine hp_go (pc' := 196) rfl rfl rfl ?_
            refine hp_go (pc' := 69) rfl rfl rfl ?_
            refine hp_s (pc' := 71) (st' := [.int 0]) rfl rfl rfl ?_
            refine hp_go (pc' := 199) rfl rfl rfl ?_
            refine hp_s (pc' := 201) (st' := [.int cc]) rfl rfl rfl ?_
            refine hp_ri rfl rfl ?_
            first | (exfalso; omega) | (refine K _ c _ hcc ⟨by omega, hk, ?_⟩ hX; first | exact Or.inl (by omega) | exact Or.inr (fun z => by unfold hOk at z; omega))
        ·
          intro h13
          refine hp_id (st := [.int 0]) ?_
          refine hp_go (pc' := 163) rfl rfl rfl ?_
          refine hp_s (pc' := 164) (st' := [.int 0]) rfl rfl rfl ?_
          refine hp_s (pc' := 166) (ls' := [(5, .int 0), (6, .int z15), (4, .int cc), (0, .ref 66), (1, .int x), (2, .int i), (3, .int w)]) (st' := []) rfl rfl rfl ?_
          refine hp_s (pc' := 168) (st' := [.int 0]) rfl rfl rfl ?_
          refine hp_go (pc' := 196) rfl rfl rfl ?_
          refine hp_go (pc' := 69) rfl rfl rfl ?_
          refine hp_s (pc' := 71) (st' := [.int 0]) rfl rfl rfl ?_
          refine hp_go (pc' := 199) rfl rfl rfl ?_
          refine hp_s (pc' := 201) (st' := [.int cc]) rfl rfl rfl ?_
          refine hp_ri rfl rfl ?_
          first | (exfalso; omega) | (refine K _ c _ hcc ⟨by omega, hk, ?_⟩ hX; first | exact Or.inl (by omega) | exact Or.inr (fun z => by unfold hOk at z; omega))
theorem M_people {ro : List (List Int32)} {n d : Nat} {p : xH} {Q : Option Value → xH → Prop} {x : Int32} {xi : Int} {i : Int32} {ii : Int} {w : Int32} {wi : Int} (hx : x.toInt = xi) (hi : i.toInt = ii) (hw : w.toInt = wi) (pre0 : 0 ≤ (rI p 98 xi.toNat).toInt) (pre1 : (rI p 98 xi.toNat).toInt ≤ 60) (pre2 : 0 ≤ (rI p 66 6).toInt) (pre3 : (rI p 66 6).toInt ≤ 7) (k0 : (¬ (0 ≤ xi ∧ xi < 6 ∧ 1 ≤ wi ∧ wi ≤ 7)) → Q (some (.int (-1))) p) (k1 : (0 ≤ xi) → (xi < 6) → (1 ≤ wi) → (wi ≤ 7) → (0 ≤ (rI p 97 xi.toNat).toInt) → ((rI p 97 xi.toNat).toInt ≠ 50) → Q (some (.int (-12))) p) (k2 : (0 ≤ xi) → (xi < 6) → (1 ≤ wi) → (wi ≤ 7) → ((rI p 97 xi.toNat).toInt < 0 ∨ ((rI p 97 xi.toNat).toInt = 50 ∧ ii < 0)) → Q (some (.int (0))) p) (k3 : ∀ z : Int32, ∀ c : Nat, ∀ p2 : xH, (0 ≤ xi) → (xi < 6) → (1 ≤ wi) → (wi ≤ 7) → ((rI p 97 xi.toNat).toInt = 50) → (0 ≤ ii) → (z.toInt = c) → (hCnt 99 p xi ii (rI p 98 xi.toNat).toInt ((rI p 66 6).toInt.toNat : Int) wi c) → (hPm p p2 xi ii (rI p 66 6).toInt.toNat c) → Q (some (.int z)) p2) : hP ro n d (12, 7, 1, 1, k186) 0 (lv_args 0 [.ref 66, .int x, .int i, .int w]) [] p Q := by
  subst hx
  subst hi
  subst hw
  refine hp_id (ls := [(0, .ref 66), (1, .int x), (2, .int i), (3, .int w)]) ?_
  refine hp_s (pc' := 1) (st' := [.int x]) rfl rfl rfl ?_
  refine hp_cs (kd := 0) (as := [.int x]) (rest := []) (pc' := 4) rfl rfl rfl rfl rfl rfl rfl (fun d1 => ?_)
  refine s_isShelfM (xi := x.toInt) rfl ?_ ?_
  ·
    intro h1 h2
    refine hp_id (st := [.int 1]) ?_
    refine hp_go (pc' := 7) rfl rfl rfl ?_
    refine hp_s (pc' := 8) (st' := [.int w]) rfl rfl rfl ?_
    refine hp_i2l (pc' := 9) rfl rfl ?_
    intro z1 hz1 ez1
    refine hp_s (pc' := 10) (st' := [.long 1, .long z1]) rfl rfl rfl ?_
    refine hp_s (pc' := 13) (st' := [.long 7, .long 1, .long z1]) rfl rfl rfl ?_
    refine hp_cs (kd := 0) (as := [.long z1, .long 1, .long 7]) (rest := []) (pc' := 16) rfl rfl rfl rfl rfl rfl rfl (fun d2 => ?_)
    refine s_within (vi := w.toInt) ez1 (ai := 1) (by decide) (bi := 7) (by decide) ?_ ?_
    ·
      intro h3 h4
      refine hp_id (st := [.int 1]) ?_
      refine hp_go (pc' := 21) rfl rfl rfl ?_
      refine hp_s (pc' := 22) (st' := [.ref 66]) rfl rfl rfl ?_
      refine hp_getr (k := 50) (w := .ref 97) (pc' := 25) rfl rfl rfl rfl rfl ?_
      refine hp_s (pc' := 26) (st' := [.int x, .ref 97]) rfl rfl rfl ?_
      refine hp_ld (t := 100) (v := (rI p 97 x.toInt.toNat)) rfl (.inl rfl) rfl rfl rfl ?_
      intro (g1a : 0 ≤ x.toInt) (g1b : x.toInt < 6)
      refine hp_if (pc' := 30) (t := 44) (a := (rI p 97 x.toInt.toNat).toInt) rfl rfl rfl rfl (fun (h5 : (rI p 97 x.toInt.toNat).toInt < 0) => ?_) (fun (h6 : ¬ ((rI p 97 x.toInt.toNat).toInt < 0)) => ?_)
      ·
        refine hp_s (pc' := 45) (st' := [.int 0]) rfl rfl rfl ?_
        refine hp_s (pc' := 47) (ls' := [(4, .int 0), (0, .ref 66), (1, .int x), (2, .int i), (3, .int w)]) (st' := []) rfl rfl rfl ?_
        refine hp_s (pc' := 48) (st' := [.ref 66]) rfl rfl rfl ?_
        refine hp_getr (k := 50) (w := .ref 97) (pc' := 51) rfl rfl rfl rfl rfl ?_
        refine hp_s (pc' := 52) (st' := [.int x, .ref 97]) rfl rfl rfl ?_
        refine hp_ld (t := 100) (v := (rI p 97 x.toInt.toNat)) rfl (.inl rfl) rfl rfl rfl ?_
        intro (g2a : 0 ≤ x.toInt) (g2b : x.toInt < 6)
        refine hp_s (pc' := 55) (st' := [.int 50, .int (rI p 97 x.toInt.toNat)]) rfl rfl rfl ?_
        refine hp_ic (pc' := 58) (t := 66) (a := (rI p 97 x.toInt.toNat).toInt) (b := 50) rfl rfl rfl rfl (by decide) (fun (h7 : (rI p 97 x.toInt.toNat).toInt ≠ 50) => ?_) (fun (h8 : ¬ ((rI p 97 x.toInt.toNat).toInt ≠ 50)) => ?_)
        ·
          refine hp_s (pc' := 67) (st' := [.int 0]) rfl rfl rfl ?_
          refine hp_s (pc' := 69) (ls' := [(5, .int 0), (4, .int 0), (0, .ref 66), (1, .int x), (2, .int i), (3, .int w)]) (st' := []) rfl rfl rfl ?_
          refine hp_s (pc' := 71) (st' := [.int 0]) rfl rfl rfl ?_
          refine hp_go (pc' := 199) rfl rfl rfl ?_
          refine hp_s (pc' := 201) (st' := [.int 0]) rfl rfl rfl ?_
          refine hp_ri rfl rfl ?_
          first | (exact k2 (by first | assumption | omega) (by first | assumption | omega) (by first | assumption | omega) (by first | assumption | omega) (by first | assumption | omega)) | (exact k3 _ _ _ (by first | assumption | omega) (by first | assumption | omega) (by first | assumption | omega) (by first | assumption | omega) (by first | assumption | omega) (by first | assumption | omega) (by first | assumption | omega) (by first | assumption | omega) (by first | assumption | omega)) | (exfalso; omega)
        ·
          refine hp_s (pc' := 59) (st' := [.int i]) rfl rfl rfl ?_
          refine hp_if (pc' := 62) (t := 66) (a := i.toInt) rfl rfl rfl rfl (fun (h9 : i.toInt < 0) => ?_) (fun (h10 : ¬ (i.toInt < 0)) => ?_)
          ·
            refine hp_s (pc' := 67) (st' := [.int 0]) rfl rfl rfl ?_
            refine hp_s (pc' := 69) (ls' := [(5, .int 0), (4, .int 0), (0, .ref 66), (1, .int x), (2, .int i), (3, .int w)]) (st' := []) rfl rfl rfl ?_
            refine hp_s (pc' := 71) (st' := [.int 0]) rfl rfl rfl ?_
            refine hp_go (pc' := 199) rfl rfl rfl ?_
            refine hp_s (pc' := 201) (st' := [.int 0]) rfl rfl rfl ?_
            refine hp_ri rfl rfl ?_
            first | (exact k2 (by first | assumption | omega) (by first | assumption | omega) (by first | assumption | omega) (by first | assumption | omega) (by first | assumption | omega)) | (exact k3 _ _ _ (by first | assumption | omega) (by first | assumption | omega) (by first | assumption | omega) (by first | assumption | omega) (by first | assumption | omega) (by first | assumption | omega) (by first | assumption | omega) (by first | assumption | omega) (by first | assumption | omega)) | (exfalso; omega)
          ·
            refine hp_s (pc' := 63) (st' := [.int 1]) rfl rfl rfl ?_
            refine hp_go (pc' := 67) rfl rfl rfl ?_
            refine hp_s (pc' := 69) (ls' := [(5, .int 1), (4, .int 0), (0, .ref 66), (1, .int x), (2, .int i), (3, .int w)]) (st' := []) rfl rfl rfl ?_
            exact lp_186a (p0 := p) (S := (rI p 66 6).toInt.toNat) (by omega) (by omega) (by omega) (by omega) (by omega) (by omega) (by omega) (fun z c p2 e1 e2 e3 => k3 z c p2 (by omega) (by omega) (by omega) (by omega) (by omega) (by omega) e1 e2 e3) n 0 _ _ rfl (by omega) (fun k hk => absurd hk (by omega)) (hPm_0 (by omega))
      ·
        refine hp_s (pc' := 31) (st' := [.ref 66]) rfl rfl rfl ?_
        refine hp_getr (k := 50) (w := .ref 97) (pc' := 34) rfl rfl rfl rfl rfl ?_
        refine hp_s (pc' := 35) (st' := [.int x, .ref 97]) rfl rfl rfl ?_
        refine hp_ld (t := 100) (v := (rI p 97 x.toInt.toNat)) rfl (.inl rfl) rfl rfl rfl ?_
        intro (g3a : 0 ≤ x.toInt) (g3b : x.toInt < 6)
        refine hp_s (pc' := 38) (st' := [.int 50, .int (rI p 97 x.toInt.toNat)]) rfl rfl rfl ?_
        refine hp_ic (pc' := 41) (t := 44) (a := (rI p 97 x.toInt.toNat).toInt) (b := 50) rfl rfl rfl rfl (by decide) (fun (h11 : (rI p 97 x.toInt.toNat).toInt = 50) => ?_) (fun (h12 : ¬ ((rI p 97 x.toInt.toNat).toInt = 50)) => ?_)
        ·
          refine hp_s (pc' := 45) (st' := [.int 0]) rfl rfl rfl ?_
          refine hp_s (pc' := 47) (ls' := [(4, .int 0), (0, .ref 66), (1, .int x), (2, .int i), (3, .int w)]) (st' := []) rfl rfl rfl ?_
          refine hp_s (pc' := 48) (st' := [.ref 66]) rfl rfl rfl ?_
          refine hp_getr (k := 50) (w := .ref 97) (pc' := 51) rfl rfl rfl rfl rfl ?_
          refine hp_s (pc' := 52) (st' := [.int x, .ref 97]) rfl rfl rfl ?_
          refine hp_ld (t := 100) (v := (rI p 97 x.toInt.toNat)) rfl (.inl rfl) rfl rfl rfl ?_
          intro (g4a : 0 ≤ x.toInt) (g4b : x.toInt < 6)
          refine hp_s (pc' := 55) (st' := [.int 50, .int (rI p 97 x.toInt.toNat)]) rfl rfl rfl ?_
          refine hp_ic (pc' := 58) (t := 66) (a := (rI p 97 x.toInt.toNat).toInt) (b := 50) rfl rfl rfl rfl (by decide) (fun (h13 : (rI p 97 x.toInt.toNat).toInt ≠ 50) => ?_) (fun (h14 : ¬ ((rI p 97 x.toInt.toNat).toInt ≠ 50)) => ?_)
          ·
            refine hp_s (pc' := 67) (st' := [.int 0]) rfl rfl rfl ?_
            refine hp_s (pc' := 69) (ls' := [(5, .int 0), (4, .int 0), (0, .ref 66), (1, .int x), (2, .int i), (3, .int w)]) (st' := []) rfl rfl rfl ?_
            refine hp_s (pc' := 71) (st' := [.int 0]) rfl rfl rfl ?_
            refine hp_go (pc' := 199) rfl rfl rfl ?_
            refine hp_s (pc' := 201) (st' := [.int 0]) rfl rfl rfl ?_
            refine hp_ri rfl rfl ?_
            first | (exact k2 (by first | assumption | omega) (by first | assumption | omega) (by first | assumption | omega) (by first | assumption | omega) (by first | assumption | omega)) | (exact k3 _ _ _ (by first | assumption | omega) (by first | assumption | omega) (by first | assumption | omega) (by first | assumption | omega) (by first | assumption | omega) (by first | assumption | omega) (by first | assumption | omega) (by first | assumption | omega) (by first | assumption | omega)) | (exfalso; omega)
          ·
            refine hp_s (pc' := 59) (st' := [.int i]) rfl rfl rfl ?_
            refine hp_if (pc' := 62) (t := 66) (a := i.toInt) rfl rfl rfl rfl (fun (h15 : i.toInt < 0) => ?_) (fun (h16 : ¬ (i.toInt < 0)) => ?_)
            ·
              refine hp_s (pc' := 67) (st' := [.int 0]) rfl rfl rfl ?_
              refine hp_s (pc' := 69) (ls' := [(5, .int 0), (4, .int 0), (0, .ref 66), (1, .int x), (2, .int i), (3, .int w)]) (st' := []) rfl rfl rfl ?_
              refine hp_s (pc' := 71) (st' := [.int 0]) rfl rfl rfl ?_
              refine hp_go (pc' := 199) rfl rfl rfl ?_
              refine hp_s (pc' := 201) (st' := [.int 0]) rfl rfl rfl ?_
              refine hp_ri rfl rfl ?_
              first | (exact k2 (by first | assumption | omega) (by first | assumption | omega) (by first | assumption | omega) (by first | assumption | omega) (by first | assumption | omega)) | (exact k3 _ _ _ (by first | assumption | omega) (by first | assumption | omega) (by first | assumption | omega) (by first | assumption | omega) (by first | assumption | omega) (by first | assumption | omega) (by first | assumption | omega) (by first | assumption | omega) (by first | assumption | omega)) | (exfalso; omega)
            ·
              refine hp_s (pc' := 63) (st' := [.int 1]) rfl rfl rfl ?_
              refine hp_go (pc' := 67) rfl rfl rfl ?_
              refine hp_s (pc' := 69) (ls' := [(5, .int 1), (4, .int 0), (0, .ref 66), (1, .int x), (2, .int i), (3, .int w)]) (st' := []) rfl rfl rfl ?_
              exact lp_186a (p0 := p) (S := (rI p 66 6).toInt.toNat) (by omega) (by omega) (by omega) (by omega) (by omega) (by omega) (by omega) (fun z c p2 e1 e2 e3 => k3 z c p2 (by omega) (by omega) (by omega) (by omega) (by omega) (by omega) e1 e2 e3) n 0 _ _ rfl (by omega) (fun k hk => absurd hk (by omega)) (hPm_0 (by omega))
        ·
          refine hp_s (pc' := 43) (st' := [.int (-12)]) rfl rfl rfl ?_
          refine hp_ri rfl rfl ?_
          first | (exact k1 (by first | assumption | omega) (by first | assumption | omega) (by first | assumption | omega) (by first | assumption | omega) (by first | assumption | omega) (by first | assumption | omega)) | (exact k3 _ _ _ (by first | assumption | omega) (by first | assumption | omega) (by first | assumption | omega) (by first | assumption | omega) (by first | assumption | omega) (by first | assumption | omega) (by first | assumption | omega) (by first | assumption | omega) (by first | assumption | omega)) | (exfalso; omega)
    ·
      intro h17
      refine hp_id (st := [.int 0]) ?_
      refine hp_go (pc' := 19) rfl rfl rfl ?_
      refine hp_s (pc' := 20) (st' := [.int (-1)]) rfl rfl rfl ?_
      refine hp_ri rfl rfl ?_
      first | (exact k0 (by first | assumption | omega)) | (exact k3 _ _ _ (by first | assumption | omega) (by first | assumption | omega) (by first | assumption | omega) (by first | assumption | omega) (by first | assumption | omega) (by first | assumption | omega) (by first | assumption | omega) (by first | assumption | omega) (by first | assumption | omega)) | (exfalso; omega)
  ·
    intro h18
    refine hp_id (st := [.int 0]) ?_
    refine hp_go (pc' := 19) rfl rfl rfl ?_
    refine hp_s (pc' := 20) (st' := [.int (-1)]) rfl rfl rfl ?_
    refine hp_ri rfl rfl ?_
    first | (exact k0 (by first | assumption | omega)) | (exact k3 _ _ _ (by first | assumption | omega) (by first | assumption | omega) (by first | assumption | omega) (by first | assumption | omega) (by first | assumption | omega) (by first | assumption | omega) (by first | assumption | omega) (by first | assumption | omega) (by first | assumption | omega)) | (exfalso; omega)
