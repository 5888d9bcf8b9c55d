/-! contracts of methods, walked -/
/-- what is told: of number n, what w -/
def hTd (p : xH) (n : Nat) (w : Int) : Int32 := if w = 0 then rI p 14 n else if w = 1 then rI p 15 n else if w = 2 then rI p 16 n else if w = 3 then rI p 13 8 else rI p 13 9
def hTl (p : xH) (n : Nat) (w : Int) (v : Int32) : xH := if w = 0 then wV p 14 n (.int v) else if w = 1 then wV p 15 n (.int v) else if w = 2 then wV p 16 n (.int v) else if w = 3 then wV p 13 8 (.int v) else wV p 13 9 (.int v)
/-- where the reference has it -/
def hAt (n w : Int) : Int := if w ≤ 2 then 7 * w + n else 18 + w
/-- may it become so -/
def hMay (s n w v : Int) : Prop := (0 ≤ w ∧ w ≤ 2 ∧ 0 ≤ n ∧ n < s ∧ 0 ≤ v ∧ v ≤ 63) ∨ (w = 3 ∧ n = 0 ∧ 0 ≤ v ∧ v ≤ 6) ∨ (w = 4 ∧ n = 0 ∧ 0 ≤ v ∧ v < 12)
/-- a change that is kept -/
def hAdd (p : xH) (n w b v : Int32) : xH := wV (wV (wV (wV (wV (wV p 53 (rI p 52 5).toInt.toNat (.int n)) 54 (rI p 52 5).toInt.toNat (.int w)) 55 (rI p 52 5).toInt.toNat (.int b)) 56 (rI p 52 5).toInt.toNat (.int v)) 52 5 (.int (rI p 52 5 + 1))) 52 6 (.int (rI p 52 5 + 1))
def hAddM (p : xH) (m a b v : Int32) : xH := wV (wV (wV (wV (wV p 68 m.toInt.toNat (.int a)) 69 m.toInt.toNat (.int b)) 70 m.toInt.toNat (.int v)) 66 5 (.int (m + 1))) 66 4 (.int (m + 1))
/-- rows that go one down -/
def hDn (r : Nat) (k : Nat) (p0 p : xH) : Prop := ∀ j, rV p r j = if j + 1 < k then rV p0 r (j + 1) else rV p0 r j
theorem hDn_s {r k k' i : Nat} {p0 p p1 : xH} {x : Int32} (h : hDn r k p0 p) (h1 : ∀ j, rV p1 r j = if j = i then .int x else rV p r j) (hi : i + 1 = k) (hk : k' = k + 1) (hx : rV p r k = .int x) : hDn r k' p0 p1 := by
  intro j
  rw [h1 j]
  by_cases z : j = i
  · subst z
    rw [if_pos rfl, if_pos (by omega), ← hx, h k, if_neg (by omega), hi]
  · rw [if_neg z, h j]
    by_cases y : j + 1 < k
    · rw [if_pos y, if_pos (by omega)]
    · rw [if_neg y, if_neg (by omega)]
theorem s_told {ro : List (List Int32)} {n d : Nat} {p : xH} {Q : Option Value → xH → Prop} {x : Int32} {xi : Int} {y : Int32} {yi : Int} (hx : x.toInt = xi) (hy : y.toInt = yi) (pre0 : 0 ≤ yi) (pre1 : yi ≤ 4) (k0 : ∀ z : Int32, (z = hTd p xi.toNat yi) → Q (some (.int z)) p) : hP ro n d (1, 3, 1, 1, k20) 0 (lv_args 0 [.ref 13, .int x, .int y]) [] p Q := by
  subst hx
  subst hy
  refine hp_id (ls := [(0, .ref 13), (1, .int x), (2, .int y)]) ?_
  refine hp_s (pc' := 1) (st' := [.int y]) rfl rfl rfl ?_
  by_cases h1 : y.toInt = 0
  ·
    refine hp_sw (v := 0) (t := 32) rfl rfl (h1) rfl ?_
    refine hp_s (pc' := 33) (st' := [.ref 13]) rfl rfl rfl ?_
    refine hp_getr (k := 1) (w := .ref 14) (pc' := 36) rfl rfl rfl rfl rfl ?_
    refine hp_s (pc' := 37) (st' := [.int x, .ref 14]) rfl rfl rfl ?_
    refine hp_ld (t := 100) (v := (rI p 14 x.toInt.toNat)) rfl (.inl rfl) rfl rfl rfl ?_
    intro (g1a : 0 ≤ x.toInt) (g1b : x.toInt < 7)
    refine hp_ri rfl rfl ?_
    first | (exact k0 _ (by first | assumption | omega | (unfold hMay; omega) | (unfold hMay at *; omega) | (subst_vars; unfold hTd; repeat (first | rfl | rw [if_pos (by omega)] | rw [if_neg (by omega)])) | (subst_vars; unfold hTl; repeat (first | rfl | rw [if_pos (by omega)] | rw [if_neg (by omega)])))) | (exfalso; omega)
  by_cases h2 : y.toInt = 1
  ·
    refine hp_sw (v := 1) (t := 39) rfl rfl (h2) rfl ?_
    refine hp_s (pc' := 40) (st' := [.ref 13]) rfl rfl rfl ?_
    refine hp_getr (k := 2) (w := .ref 15) (pc' := 43) rfl rfl rfl rfl rfl ?_
    refine hp_s (pc' := 44) (st' := [.int x, .ref 15]) rfl rfl rfl ?_
    refine hp_ld (t := 100) (v := (rI p 15 x.toInt.toNat)) rfl (.inl rfl) rfl rfl rfl ?_
    intro (g2a : 0 ≤ x.toInt) (g2b : x.toInt < 7)
    refine hp_ri rfl rfl ?_
    first | (exact k0 _ (by first | assumption | omega | (unfold hMay; omega) | (unfold hMay at *; omega) | (subst_vars; unfold hTd; repeat (first | rfl | rw [if_pos (by omega)] | rw [if_neg (by omega)])) | (subst_vars; unfold hTl; repeat (first | rfl | rw [if_pos (by omega)] | rw [if_neg (by omega)])))) | (exfalso; omega)
  by_cases h3 : y.toInt = 2
  ·
    refine hp_sw (v := 2) (t := 46) rfl rfl (h3) rfl ?_
    refine hp_s (pc' := 47) (st' := [.ref 13]) rfl rfl rfl ?_
    refine hp_getr (k := 3) (w := .ref 16) (pc' := 50) rfl rfl rfl rfl rfl ?_
    refine hp_s (pc' := 51) (st' := [.int x, .ref 16]) rfl rfl rfl ?_
    refine hp_ld (t := 100) (v := (rI p 16 x.toInt.toNat)) rfl (.inl rfl) rfl rfl rfl ?_
    intro (g3a : 0 ≤ x.toInt) (g3b : x.toInt < 7)
    refine hp_ri rfl rfl ?_
    first | (exact k0 _ (by first | assumption | omega | (unfold hMay; omega) | (unfold hMay at *; omega) | (subst_vars; unfold hTd; repeat (first | rfl | rw [if_pos (by omega)] | rw [if_neg (by omega)])) | (subst_vars; unfold hTl; repeat (first | rfl | rw [if_pos (by omega)] | rw [if_neg (by omega)])))) | (exfalso; omega)
  by_cases h4 : y.toInt = 3
  ·
    refine hp_sw (v := 3) (t := 53) rfl rfl (h4) rfl ?_
    refine hp_s (pc' := 54) (st' := [.ref 13]) rfl rfl rfl ?_
    refine hp_get (k := 8) (pc' := 57) (v := (rI p 13 8)) rfl rfl rfl rfl rfl rfl ?_
    refine hp_ri rfl rfl ?_
    first | (exact k0 _ (by first | assumption | omega | (unfold hMay; omega) | (unfold hMay at *; omega) | (subst_vars; unfold hTd; repeat (first | rfl | rw [if_pos (by omega)] | rw [if_neg (by omega)])) | (subst_vars; unfold hTl; repeat (first | rfl | rw [if_pos (by omega)] | rw [if_neg (by omega)])))) | (exfalso; omega)
  refine hp_td (t := 58) rfl rfl (by omega) ?_
  refine hp_s (pc' := 59) (st' := [.ref 13]) rfl rfl rfl ?_
  refine hp_get (k := 9) (pc' := 62) (v := (rI p 13 9)) rfl rfl rfl rfl rfl rfl ?_
  refine hp_ri rfl rfl ?_
  first | (exact k0 _ (by first | assumption | omega | (unfold hMay; omega) | (unfold hMay at *; omega) | (subst_vars; unfold hTd; repeat (first | rfl | rw [if_pos (by omega)] | rw [if_neg (by omega)])) | (subst_vars; unfold hTl; repeat (first | rfl | rw [if_pos (by omega)] | rw [if_neg (by omega)])))) | (exfalso; omega)
theorem s_tell {ro : List (List Int32)} {n d : Nat} {p : xH} {Q : Option Value → xH → Prop} {x : Int32} {xi : Int} {y : Int32} {yi : Int} {v : Int32} {vi : Int} (hx : x.toInt = xi) (hy : y.toInt = yi) (hv : v.toInt = vi) (pre0 : 0 ≤ yi) (pre1 : yi ≤ 4) (k0 : ∀ p2 : xH, (p2 = hTl p xi.toNat yi v) → Q none p2) : hP ro n d (1, 4, 1, 0, k21) 0 (lv_args 0 [.ref 13, .int x, .int y, .int v]) [] p Q := by
  subst hx
  subst hy
  subst hv
  refine hp_id (ls := [(0, .ref 13), (1, .int x), (2, .int y), (3, .int v)]) ?_
  refine hp_s (pc' := 1) (st' := [.int y]) rfl rfl rfl ?_
  by_cases h1 : y.toInt = 0
  ·
    refine hp_sw (v := 0) (t := 32) rfl rfl (h1) rfl ?_
    refine hp_s (pc' := 33) (st' := [.ref 13]) rfl rfl rfl ?_
    refine hp_getr (k := 1) (w := .ref 14) (pc' := 36) rfl rfl rfl rfl rfl ?_
    refine hp_s (pc' := 37) (st' := [.int x, .ref 14]) rfl rfl rfl ?_
    refine hp_s (pc' := 38) (st' := [.int v, .int x, .ref 14]) rfl rfl rfl ?_
    refine hp_st (t := 100) rfl (.inl rfl) rfl rfl ?_
    intro p1 wp1 (p1a : 0 ≤ x.toInt) (p1b : x.toInt < 7) ep1
    refine hp_go (pc' := 75) rfl rfl rfl ?_
    refine hp_rv rfl rfl ?_
    first | (exact k0 _ (by first | assumption | omega | (unfold hMay; omega) | (unfold hMay at *; omega) | (subst_vars; unfold hTd; repeat (first | rfl | rw [if_pos (by omega)] | rw [if_neg (by omega)])) | (subst_vars; unfold hTl; repeat (first | rfl | rw [if_pos (by omega)] | rw [if_neg (by omega)])))) | (exfalso; omega)
  by_cases h2 : y.toInt = 1
  ·
    refine hp_sw (v := 1) (t := 42) rfl rfl (h2) rfl ?_
    refine hp_s (pc' := 43) (st' := [.ref 13]) rfl rfl rfl ?_
    refine hp_getr (k := 2) (w := .ref 15) (pc' := 46) rfl rfl rfl rfl rfl ?_
    refine hp_s (pc' := 47) (st' := [.int x, .ref 15]) rfl rfl rfl ?_
    refine hp_s (pc' := 48) (st' := [.int v, .int x, .ref 15]) rfl rfl rfl ?_
    refine hp_st (t := 100) rfl (.inl rfl) rfl rfl ?_
    intro p2 wp2 (p2a : 0 ≤ x.toInt) (p2b : x.toInt < 7) ep2
    refine hp_go (pc' := 75) rfl rfl rfl ?_
    refine hp_rv rfl rfl ?_
    first | (exact k0 _ (by first | assumption | omega | (unfold hMay; omega) | (unfold hMay at *; omega) | (subst_vars; unfold hTd; repeat (first | rfl | rw [if_pos (by omega)] | rw [if_neg (by omega)])) | (subst_vars; unfold hTl; repeat (first | rfl | rw [if_pos (by omega)] | rw [if_neg (by omega)])))) | (exfalso; omega)
  by_cases h3 : y.toInt = 2
  ·
    refine hp_sw (v := 2) (t := 52) rfl rfl (h3) rfl ?_
    refine hp_s (pc' := 53) (st' := [.ref 13]) rfl rfl rfl ?_
    refine hp_getr (k := 3) (w := .ref 16) (pc' := 56) rfl rfl rfl rfl rfl ?_
    refine hp_s (pc' := 57) (st' := [.int x, .ref 16]) rfl rfl rfl ?_
    refine hp_s (pc' := 58) (st' := [.int v, .int x, .ref 16]) rfl rfl rfl ?_
    refine hp_st (t := 100) rfl (.inl rfl) rfl rfl ?_
    intro p3 wp3 (p3a : 0 ≤ x.toInt) (p3b : x.toInt < 7) ep3
    refine hp_go (pc' := 75) rfl rfl rfl ?_
    refine hp_rv rfl rfl ?_
    first | (exact k0 _ (by first | assumption | omega | (unfold hMay; omega) | (unfold hMay at *; omega) | (subst_vars; unfold hTd; repeat (first | rfl | rw [if_pos (by omega)] | rw [if_neg (by omega)])) | (subst_vars; unfold hTl; repeat (first | rfl | rw [if_pos (by omega)] | rw [if_neg (by omega)])))) | (exfalso; omega)
  by_cases h4 : y.toInt = 3
  ·
    refine hp_sw (v := 3) (t := 62) rfl rfl (h4) rfl ?_
    refine hp_s (pc' := 63) (st' := [.ref 13]) rfl rfl rfl ?_
    refine hp_s (pc' := 64) (st' := [.int v, .ref 13]) rfl rfl rfl ?_
    refine hp_put (k := 8) (pc' := 67) rfl rfl rfl rfl rfl ?_
    intro p4 wp4 ep4
    refine hp_go (pc' := 75) rfl rfl rfl ?_
    refine hp_rv rfl rfl ?_
    first | (exact k0 _ (by first | assumption | omega | (unfold hMay; omega) | (unfold hMay at *; omega) | (subst_vars; unfold hTd; repeat (first | rfl | rw [if_pos (by omega)] | rw [if_neg (by omega)])) | (subst_vars; unfold hTl; repeat (first | rfl | rw [if_pos (by omega)] | rw [if_neg (by omega)])))) | (exfalso; omega)
  refine hp_td (t := 70) rfl rfl (by omega) ?_
  refine hp_s (pc' := 71) (st' := [.ref 13]) rfl rfl rfl ?_
  refine hp_s (pc' := 72) (st' := [.int v, .ref 13]) rfl rfl rfl ?_
  refine hp_put (k := 9) (pc' := 75) rfl rfl rfl rfl rfl ?_
  intro p5 wp5 ep5
  refine hp_rv rfl rfl ?_
  first | (exact k0 _ (by first | assumption | omega | (unfold hMay; omega) | (unfold hMay at *; omega) | (subst_vars; unfold hTd; repeat (first | rfl | rw [if_pos (by omega)] | rw [if_neg (by omega)])) | (subst_vars; unfold hTl; repeat (first | rfl | rw [if_pos (by omega)] | rw [if_neg (by omega)])))) | (exfalso; omega)
theorem s_mayBecome {ro : List (List Int32)} {n d : Nat} {p : xH} {Q : Option Value → xH → Prop} {x : Int32} {xi : Int} {y : Int32} {yi : Int} {v : Int32} {vi : Int} (hx : x.toInt = xi) (hy : y.toInt = yi) (hv : v.toInt = vi)  (k0 : (hMay (rI p 13 7).toInt xi yi vi) → Q (some (.int (1))) p) (k1 : (¬ hMay (rI p 13 7).toInt xi yi vi) → Q (some (.int (0))) p) : hP ro n d (11, 4, 1, 2, k132) 0 (lv_args 0 [.ref 0, .int x, .int y, .int v]) [] p Q := by
  subst hx
  subst hy
  subst hv
  refine hp_id (ls := [(0, .ref 0), (1, .int x), (2, .int y), (3, .int v)]) ?_
  refine hp_s (pc' := 1) (st' := [.int y]) rfl rfl rfl ?_
  by_cases h1 : y.toInt = 0
  ·
    refine hp_sw (v := 0) (t := 36) rfl rfl (h1) rfl ?_
    refine hp_s (pc' := 37) (st' := [.ref 0]) rfl rfl rfl ?_
    refine hp_getr (k := 4) (w := .ref 13) (pc' := 40) rfl rfl rfl rfl rfl ?_
    refine hp_s (pc' := 41) (st' := [.int x, .ref 13]) rfl rfl rfl ?_
    refine hp_cv (r := 13) (o := 1) (kd := 1) (as := [.int x]) (rest := []) (pc' := 44) rfl rfl rfl rfl rfl rfl rfl rfl rfl (fun d1 => ?_)
    refine s_has (xi := x.toInt) rfl ?_ ?_
    ·
      intro h2 h3
      refine hp_id (st := [.int 1]) ?_
      refine hp_go (pc' := 47) rfl rfl rfl ?_
      refine hp_s (pc' := 48) (st' := [.int v]) rfl rfl rfl ?_
      refine hp_i2l (pc' := 49) rfl rfl ?_
      intro z1 hz1 ez1
      refine hp_cs (kd := 0) (as := [.long z1]) (rest := []) (pc' := 52) rfl rfl rfl rfl rfl rfl rfl (fun d2 => ?_)
      refine s_isParts (xi := v.toInt) ez1 ?_ ?_
      ·
        intro h4 h5
        refine hp_id (st := [.int 1]) ?_
        refine hp_go (pc' := 55) rfl rfl rfl ?_
        refine hp_s (pc' := 56) (st' := [.int 1]) rfl rfl rfl ?_
        refine hp_go (pc' := 60) rfl rfl rfl ?_
        refine hp_rb rfl rfl (fun _ => ?_)
        first | (exact k0 (by first | assumption | omega | (unfold hMay; omega) | (unfold hMay at *; omega) | (subst_vars; unfold hTd; repeat (first | rfl | rw [if_pos (by omega)] | rw [if_neg (by omega)])) | (subst_vars; unfold hTl; repeat (first | rfl | rw [if_pos (by omega)] | rw [if_neg (by omega)])))) | (exfalso; omega)
      ·
        intro h6
        refine hp_id (st := [.int 0]) ?_
        refine hp_go (pc' := 59) rfl rfl rfl ?_
        refine hp_s (pc' := 60) (st' := [.int 0]) rfl rfl rfl ?_
        refine hp_rb rfl rfl (fun _ => ?_)
        first | (exact k1 (by first | assumption | omega | (unfold hMay; omega) | (unfold hMay at *; omega) | (subst_vars; unfold hTd; repeat (first | rfl | rw [if_pos (by omega)] | rw [if_neg (by omega)])) | (subst_vars; unfold hTl; repeat (first | rfl | rw [if_pos (by omega)] | rw [if_neg (by omega)])))) | (exfalso; omega)
    ·
      intro h7
      refine hp_id (st := [.int 0]) ?_
      refine hp_go (pc' := 59) rfl rfl rfl ?_
      refine hp_s (pc' := 60) (st' := [.int 0]) rfl rfl rfl ?_
      refine hp_rb rfl rfl (fun _ => ?_)
      first | (exact k1 (by first | assumption | omega | (unfold hMay; omega) | (unfold hMay at *; omega) | (subst_vars; unfold hTd; repeat (first | rfl | rw [if_pos (by omega)] | rw [if_neg (by omega)])) | (subst_vars; unfold hTl; repeat (first | rfl | rw [if_pos (by omega)] | rw [if_neg (by omega)])))) | (exfalso; omega)
  by_cases h8 : y.toInt = 1
  ·
    refine hp_sw (v := 1) (t := 36) rfl rfl (h8) rfl ?_
    refine hp_s (pc' := 37) (st' := [.ref 0]) rfl rfl rfl ?_
    refine hp_getr (k := 4) (w := .ref 13) (pc' := 40) rfl rfl rfl rfl rfl ?_
    refine hp_s (pc' := 41) (st' := [.int x, .ref 13]) rfl rfl rfl ?_
    refine hp_cv (r := 13) (o := 1) (kd := 1) (as := [.int x]) (rest := []) (pc' := 44) rfl rfl rfl rfl rfl rfl rfl rfl rfl (fun d3 => ?_)
    refine s_has (xi := x.toInt) rfl ?_ ?_
    ·
      intro h9 h10
      refine hp_id (st := [.int 1]) ?_
      refine hp_go (pc' := 47) rfl rfl rfl ?_
      refine hp_s (pc' := 48) (st' := [.int v]) rfl rfl rfl ?_
      refine hp_i2l (pc' := 49) rfl rfl ?_
      intro z2 hz2 ez2
      refine hp_cs (kd := 0) (as := [.long z2]) (rest := []) (pc' := 52) rfl rfl rfl rfl rfl rfl rfl (fun d4 => ?_)
      refine s_isParts (xi := v.toInt) ez2 ?_ ?_
      ·
        intro h11 h12
        refine hp_id (st := [.int 1]) ?_
        refine hp_go (pc' := 55) rfl rfl rfl ?_
        refine hp_s (pc' := 56) (st' := [.int 1]) rfl rfl rfl ?_
        refine hp_go (pc' := 60) rfl rfl rfl ?_
        refine hp_rb rfl rfl (fun _ => ?_)
        first | (exact k0 (by first | assumption | omega | (unfold hMay; omega) | (unfold hMay at *; omega) | (subst_vars; unfold hTd; repeat (first | rfl | rw [if_pos (by omega)] | rw [if_neg (by omega)])) | (subst_vars; unfold hTl; repeat (first | rfl | rw [if_pos (by omega)] | rw [if_neg (by omega)])))) | (exfalso; omega)
      ·
        intro h13
        refine hp_id (st := [.int 0]) ?_
        refine hp_go (pc' := 59) rfl rfl rfl ?_
        refine hp_s (pc' := 60) (st' := [.int 0]) rfl rfl rfl ?_
        refine hp_rb rfl rfl (fun _ => ?_)
        first | (exact k1 (by first | assumption | omega | (unfold hMay; omega) | (unfold hMay at *; omega) | (subst_vars; unfold hTd; repeat (first | rfl | rw [if_pos (by omega)] | rw [if_neg (by omega)])) | (subst_vars; unfold hTl; repeat (first | rfl | rw [if_pos (by omega)] | rw [if_neg (by omega)])))) | (exfalso; omega)
    ·
      intro h14
      refine hp_id (st := [.int 0]) ?_
      refine hp_go (pc' := 59) rfl rfl rfl ?_
      refine hp_s (pc' := 60) (st' := [.int 0]) rfl rfl rfl ?_
      refine hp_rb rfl rfl (fun _ => ?_)
      first | (exact k1 (by first | assumption | omega | (unfold hMay; omega) | (unfold hMay at *; omega) | (subst_vars; unfold hTd; repeat (first | rfl | rw [if_pos (by omega)] | rw [if_neg (by omega)])) | (subst_vars; unfold hTl; repeat (first | rfl | rw [if_pos (by omega)] | rw [if_neg (by omega)])))) | (exfalso; omega)
  by_cases h15 : y.toInt = 2
  ·
    refine hp_sw (v := 2) (t := 36) rfl rfl (h15) rfl ?_
    refine hp_s (pc' := 37) (st' := [.ref 0]) rfl rfl rfl ?_
    refine hp_getr (k := 4) (w := .ref 13) (pc' := 40) rfl rfl rfl rfl rfl ?_
    refine hp_s (pc' := 41) (st' := [.int x, .ref 13]) rfl rfl rfl ?_
    refine hp_cv (r := 13) (o := 1) (kd := 1) (as := [.int x]) (rest := []) (pc' := 44) rfl rfl rfl rfl rfl rfl rfl rfl rfl (fun d5 => ?_)
    refine s_has (xi := x.toInt) rfl ?_ ?_
    ·
      intro h16 h17
      refine hp_id (st := [.int 1]) ?_
      refine hp_go (pc' := 47) rfl rfl rfl ?_
      refine hp_s (pc' := 48) (st' := [.int v]) rfl rfl rfl ?_
      refine hp_i2l (pc' := 49) rfl rfl ?_
      intro z3 hz3 ez3
      refine hp_cs (kd := 0) (as := [.long z3]) (rest := []) (pc' := 52) rfl rfl rfl rfl rfl rfl rfl (fun d6 => ?_)
      refine s_isParts (xi := v.toInt) ez3 ?_ ?_
      ·
        intro h18 h19
        refine hp_id (st := [.int 1]) ?_
        refine hp_go (pc' := 55) rfl rfl rfl ?_
        refine hp_s (pc' := 56) (st' := [.int 1]) rfl rfl rfl ?_
        refine hp_go (pc' := 60) rfl rfl rfl ?_
        refine hp_rb rfl rfl (fun _ => ?_)
        first | (exact k0 (by first | assumption | omega | (unfold hMay; omega) | (unfold hMay at *; omega) | (subst_vars; unfold hTd; repeat (first | rfl | rw [if_pos (by omega)] | rw [if_neg (by omega)])) | (subst_vars; unfold hTl; repeat (first | rfl | rw [if_pos (by omega)] | rw [if_neg (by omega)])))) | (exfalso; omega)
      ·
        intro h20
        refine hp_id (st := [.int 0]) ?_
        refine hp_go (pc' := 59) rfl rfl rfl ?_
        refine hp_s (pc' := 60) (st' := [.int 0]) rfl rfl rfl ?_
        refine hp_rb rfl rfl (fun _ => ?_)
        first | (exact k1 (by first | assumption | omega | (unfold hMay; omega) | (unfold hMay at *; omega) | (subst_vars; unfold hTd; repeat (first | rfl | rw [if_pos (by omega)] | rw [if_neg (by omega)])) | (subst_vars; unfold hTl; repeat (first | rfl | rw [if_pos (by omega)] | rw [if_neg (by omega)])))) | (exfalso; omega)
    ·
      intro h21
      refine hp_id (st := [.int 0]) ?_
      refine hp_go (pc' := 59) rfl rfl rfl ?_
      refine hp_s (pc' := 60) (st' := [.int 0]) rfl rfl rfl ?_
      refine hp_rb rfl rfl (fun _ => ?_)
      first | (exact k1 (by first | assumption | omega | (unfold hMay; omega) | (unfold hMay at *; omega) | (subst_vars; unfold hTd; repeat (first | rfl | rw [if_pos (by omega)] | rw [if_neg (by omega)])) | (subst_vars; unfold hTl; repeat (first | rfl | rw [if_pos (by omega)] | rw [if_neg (by omega)])))) | (exfalso; omega)
  by_cases h22 : y.toInt = 3
  ·
    refine hp_sw (v := 3) (t := 61) rfl rfl (h22) rfl ?_
    refine hp_s (pc' := 62) (st' := [.int x]) rfl rfl rfl ?_
    refine hp_if (pc' := 65) (t := 79) (a := x.toInt) rfl rfl rfl rfl (fun (h23 : x.toInt ≠ 0) => ?_) (fun (h24 : ¬ (x.toInt ≠ 0)) => ?_)
    ·
      refine hp_s (pc' := 80) (st' := [.int 0]) rfl rfl rfl ?_
      refine hp_rb rfl rfl (fun _ => ?_)
      first | (exact k1 (by first | assumption | omega | (unfold hMay; omega) | (unfold hMay at *; omega) | (subst_vars; unfold hTd; repeat (first | rfl | rw [if_pos (by omega)] | rw [if_neg (by omega)])) | (subst_vars; unfold hTl; repeat (first | rfl | rw [if_pos (by omega)] | rw [if_neg (by omega)])))) | (exfalso; omega)
    ·
      refine hp_s (pc' := 66) (st' := [.int v]) rfl rfl rfl ?_
      refine hp_if (pc' := 69) (t := 79) (a := v.toInt) rfl rfl rfl rfl (fun (h25 : v.toInt < 0) => ?_) (fun (h26 : ¬ (v.toInt < 0)) => ?_)
      ·
        refine hp_s (pc' := 80) (st' := [.int 0]) rfl rfl rfl ?_
        refine hp_rb rfl rfl (fun _ => ?_)
        first | (exact k1 (by first | assumption | omega | (unfold hMay; omega) | (unfold hMay at *; omega) | (subst_vars; unfold hTd; repeat (first | rfl | rw [if_pos (by omega)] | rw [if_neg (by omega)])) | (subst_vars; unfold hTl; repeat (first | rfl | rw [if_pos (by omega)] | rw [if_neg (by omega)])))) | (exfalso; omega)
      ·
        refine hp_s (pc' := 70) (st' := [.int v]) rfl rfl rfl ?_
        refine hp_s (pc' := 72) (st' := [.int 6, .int v]) rfl rfl rfl ?_
        refine hp_ic (pc' := 75) (t := 79) (a := v.toInt) (b := 6) rfl rfl rfl rfl (by decide) (fun (h27 : 6 < v.toInt) => ?_) (fun (h28 : ¬ (6 < v.toInt)) => ?_)
        ·
          refine hp_s (pc' := 80) (st' := [.int 0]) rfl rfl rfl ?_
          refine hp_rb rfl rfl (fun _ => ?_)
          first | (exact k1 (by first | assumption | omega | (unfold hMay; omega) | (unfold hMay at *; omega) | (subst_vars; unfold hTd; repeat (first | rfl | rw [if_pos (by omega)] | rw [if_neg (by omega)])) | (subst_vars; unfold hTl; repeat (first | rfl | rw [if_pos (by omega)] | rw [if_neg (by omega)])))) | (exfalso; omega)
        ·
          refine hp_s (pc' := 76) (st' := [.int 1]) rfl rfl rfl ?_
          refine hp_go (pc' := 80) rfl rfl rfl ?_
          refine hp_rb rfl rfl (fun _ => ?_)
          first | (exact k0 (by first | assumption | omega | (unfold hMay; omega) | (unfold hMay at *; omega) | (subst_vars; unfold hTd; repeat (first | rfl | rw [if_pos (by omega)] | rw [if_neg (by omega)])) | (subst_vars; unfold hTl; repeat (first | rfl | rw [if_pos (by omega)] | rw [if_neg (by omega)])))) | (exfalso; omega)
  by_cases h29 : y.toInt = 4
  ·
    refine hp_sw (v := 4) (t := 81) rfl rfl (h29) rfl ?_
    refine hp_s (pc' := 82) (st' := [.int x]) rfl rfl rfl ?_
    refine hp_if (pc' := 85) (t := 99) (a := x.toInt) rfl rfl rfl rfl (fun (h30 : x.toInt ≠ 0) => ?_) (fun (h31 : ¬ (x.toInt ≠ 0)) => ?_)
    ·
      refine hp_s (pc' := 100) (st' := [.int 0]) rfl rfl rfl ?_
      refine hp_rb rfl rfl (fun _ => ?_)
      first | (exact k1 (by first | assumption | omega | (unfold hMay; omega) | (unfold hMay at *; omega) | (subst_vars; unfold hTd; repeat (first | rfl | rw [if_pos (by omega)] | rw [if_neg (by omega)])) | (subst_vars; unfold hTl; repeat (first | rfl | rw [if_pos (by omega)] | rw [if_neg (by omega)])))) | (exfalso; omega)
    ·
      refine hp_s (pc' := 86) (st' := [.int v]) rfl rfl rfl ?_
      refine hp_if (pc' := 89) (t := 99) (a := v.toInt) rfl rfl rfl rfl (fun (h32 : v.toInt < 0) => ?_) (fun (h33 : ¬ (v.toInt < 0)) => ?_)
      ·
        refine hp_s (pc' := 100) (st' := [.int 0]) rfl rfl rfl ?_
        refine hp_rb rfl rfl (fun _ => ?_)
        first | (exact k1 (by first | assumption | omega | (unfold hMay; omega) | (unfold hMay at *; omega) | (subst_vars; unfold hTd; repeat (first | rfl | rw [if_pos (by omega)] | rw [if_neg (by omega)])) | (subst_vars; unfold hTl; repeat (first | rfl | rw [if_pos (by omega)] | rw [if_neg (by omega)])))) | (exfalso; omega)
      ·
        refine hp_s (pc' := 90) (st' := [.int v]) rfl rfl rfl ?_
        refine hp_s (pc' := 92) (st' := [.int 12, .int v]) rfl rfl rfl ?_
        refine hp_ic (pc' := 95) (t := 99) (a := v.toInt) (b := 12) rfl rfl rfl rfl (by decide) (fun (h34 : 12 ≤ v.toInt) => ?_) (fun (h35 : ¬ (12 ≤ v.toInt)) => ?_)
        ·
          refine hp_s (pc' := 100) (st' := [.int 0]) rfl rfl rfl ?_
          refine hp_rb rfl rfl (fun _ => ?_)
          first | (exact k1 (by first | assumption | omega | (unfold hMay; omega) | (unfold hMay at *; omega) | (subst_vars; unfold hTd; repeat (first | rfl | rw [if_pos (by omega)] | rw [if_neg (by omega)])) | (subst_vars; unfold hTl; repeat (first | rfl | rw [if_pos (by omega)] | rw [if_neg (by omega)])))) | (exfalso; omega)
        ·
          refine hp_s (pc' := 96) (st' := [.int 1]) rfl rfl rfl ?_
          refine hp_go (pc' := 100) rfl rfl rfl ?_
          refine hp_rb rfl rfl (fun _ => ?_)
          first | (exact k0 (by first | assumption | omega | (unfold hMay; omega) | (unfold hMay at *; omega) | (subst_vars; unfold hTd; repeat (first | rfl | rw [if_pos (by omega)] | rw [if_neg (by omega)])) | (subst_vars; unfold hTl; repeat (first | rfl | rw [if_pos (by omega)] | rw [if_neg (by omega)])))) | (exfalso; omega)
  refine hp_td (t := 101) rfl rfl (by omega) ?_
  refine hp_s (pc' := 102) (st' := [.int 0]) rfl rfl rfl ?_
  refine hp_rb rfl rfl (fun _ => ?_)
  first | (exact k1 (by first | assumption | omega | (unfold hMay; omega) | (unfold hMay at *; omega) | (subst_vars; unfold hTd; repeat (first | rfl | rw [if_pos (by omega)] | rw [if_neg (by omega)])) | (subst_vars; unfold hTl; repeat (first | rfl | rw [if_pos (by omega)] | rw [if_neg (by omega)])))) | (exfalso; omega)
theorem lp_2 {ro : List (List Int32)} {d : Nat} {Q : Option Value → xH → Prop} {p0 : xH} (K : ∀ (p2 : xH) (k : Int32), hNt [(53, 9999), (54, 9999), (55, 9999), (56, 9999)] p0 p2 ∧ hDn 53 40 p0 p2 ∧ hDn 54 40 p0 p2 ∧ hDn 55 40 p0 p2 ∧ hDn 56 40 p0 p2 → ∀ n, hP ro n d (0, 2, 1, 0, k2) 70 [(1, .int k), (0, .ref 52)] [] p2 Q) : ∀ (n : Nat) (k : Int32) (p : xH), (1 ≤ k.toInt) → (k.toInt ≤ 40) → (hNt [(53, 9999), (54, 9999), (55, 9999), (56, 9999)] p0 p ∧ hDn 53 k.toInt.toNat p0 p ∧ hDn 54 k.toInt.toNat p0 p ∧ hDn 55 k.toInt.toNat p0 p ∧ hDn 56 k.toInt.toNat p0 p) → hP ro n d (0, 2, 1, 0, k2) 2 [(1, .int k), (0, .ref 52)] [] p Q := by
  intro n
  induction n with
  | zero => intros; exact hp_0
  | succ n ih =>
    intro k p h1 h2 hO
    refine hp_hw (fun wp => ?_)
    refine hp_s1 (pc' := 3) (st' := [.int k]) rfl rfl rfl ?_
    refine hp_s (pc' := 5) (st' := [.int 40, .int k]) rfl rfl rfl ?_
    refine hp_ic (pc' := 8) (t := 70) (a := k.toInt) (b := 40) rfl rfl rfl rfl (by decide) (fun (h1 : 40 ≤ k.toInt) => ?_) (fun (h2 : ¬ (40 ≤ k.toInt)) => ?_)
    ·
      exact K _ _ (by rw [show (40 : Nat) = k.toInt.toNat by omega]; exact hO) n
    ·
      refine hp_s (pc' := 9) (st' := [.ref 52]) rfl rfl rfl ?_
      refine hp_getr (k := 1) (w := .ref 53) (pc' := 12) rfl rfl rfl rfl rfl ?_
      refine hp_s (pc' := 13) (st' := [.int k, .ref 53]) rfl rfl rfl ?_
      refine hp_s (pc' := 14) (st' := [.int 1, .int k, .ref 53]) rfl rfl rfl ?_
      refine hp_z (pc' := 15) (e := k - 1) (st' := [.ref 53]) rfl rfl rfl ?_
      intro z1 hz1
      have ez1 := i_sub hz1 (show k.toInt = k.toInt from rfl) (show (1 : Int32).toInt = 1 from by decide)
      refine hp_s (pc' := 16) (st' := [.ref 52, .int z1, .ref 53]) rfl rfl rfl ?_
      refine hp_getr (k := 1) (w := .ref 53) (pc' := 19) rfl rfl rfl rfl rfl ?_
      refine hp_s (pc' := 20) (st' := [.int k, .ref 53, .int z1, .ref 53]) rfl rfl rfl ?_
      refine hp_ld (t := 100) (v := (rI p 53 k.toInt.toNat)) rfl (.inl rfl) rfl rfl rfl ?_
      intro (g1a : 0 ≤ k.toInt) (g1b : k.toInt < 40)
      refine hp_st (t := 100) rfl (.inl rfl) rfl rfl ?_
      intro p1 wp1 (p1a : 0 ≤ z1.toInt) (p1b : z1.toInt < 40) ep1
      refine hp_s (pc' := 23) (st' := [.ref 52]) rfl rfl rfl ?_
      refine hp_getr (k := 2) (w := .ref 54) (pc' := 26) rfl rfl rfl rfl rfl ?_
      refine hp_s (pc' := 27) (st' := [.int k, .ref 54]) rfl rfl rfl ?_
      refine hp_s (pc' := 28) (st' := [.int 1, .int k, .ref 54]) rfl rfl rfl ?_
      refine hp_z (pc' := 29) (e := k - 1) (st' := [.ref 54]) rfl rfl rfl ?_
      intro z2 hz2
      have ez2 := i_sub hz2 (show k.toInt = k.toInt from rfl) (show (1 : Int32).toInt = 1 from by decide)
      refine hp_s (pc' := 30) (st' := [.ref 52, .int z2, .ref 54]) rfl rfl rfl ?_
      refine hp_getr (k := 2) (w := .ref 54) (pc' := 33) rfl rfl rfl rfl rfl ?_
      refine hp_s (pc' := 34) (st' := [.int k, .ref 54, .int z2, .ref 54]) rfl rfl rfl ?_
      refine hp_ld (t := 100) (v := (rI p 54 k.toInt.toNat)) rfl (.inl rfl) rfl rfl (by rw [ep1, rI_o (by decide)]) ?_
      intro (g2a : 0 ≤ k.toInt) (g2b : k.toInt < 40)
      refine hp_st (t := 100) rfl (.inl rfl) rfl rfl ?_
      intro p2 wp2 (p2a : 0 ≤ z2.toInt) (p2b : z2.toInt < 40) ep2
      refine hp_s (pc' := 37) (st' := [.ref 52]) rfl rfl rfl ?_
      refine hp_getr (k := 3) (w := .ref 55) (pc' := 40) rfl rfl rfl rfl rfl ?_
      refine hp_s (pc' := 41) (st' := [.int k, .ref 55]) rfl rfl rfl ?_
      refine hp_s (pc' := 42) (st' := [.int 1, .int k, .ref 55]) rfl rfl rfl ?_
      refine hp_z (pc' := 43) (e := k - 1) (st' := [.ref 55]) rfl rfl rfl ?_
      intro z3 hz3
      have ez3 := i_sub hz3 (show k.toInt = k.toInt from rfl) (show (1 : Int32).toInt = 1 from by decide)
      refine hp_s (pc' := 44) (st' := [.ref 52, .int z3, .ref 55]) rfl rfl rfl ?_
      refine hp_getr (k := 3) (w := .ref 55) (pc' := 47) rfl rfl rfl rfl rfl ?_
      refine hp_s (pc' := 48) (st' := [.int k, .ref 55, .int z3, .ref 55]) rfl rfl rfl ?_
      refine hp_ld (t := 100) (v := (rI p 55 k.toInt.toNat)) rfl (.inl rfl) rfl rfl (by rw [ep2, rI_o (by decide), ep1, rI_o (by decide)]) ?_
      intro (g3a : 0 ≤ k.toInt) (g3b : k.toInt < 40)
      refine hp_st (t := 100) rfl (.inl rfl) rfl rfl ?_
      intro p3 wp3 (p3a : 0 ≤ z3.toInt) (p3b : z3.toInt < 40) ep3
      refine hp_s (pc' := 51) (st' := [.ref 52]) rfl rfl rfl ?_
      refine hp_getr (k := 4) (w := .ref 56) (pc' := 54) rfl rfl rfl rfl rfl ?_
      refine hp_s (pc' := 55) (st' := [.int k, .ref 56]) rfl rfl rfl ?_
      refine hp_s (pc' := 56) (st' := [.int 1, .int k, .ref 56]) rfl rfl rfl ?_
      refine hp_z (pc' := 57) (e := k - 1) (st' := [.ref 56]) rfl rfl rfl ?_
      intro z4 hz4
      have ez4 := i_sub hz4 (show k.toInt = k.toInt from rfl) (show (1 : Int32).toInt = 1 from by decide)
      refine hp_s (pc' := 58) (st' := [.ref 52, .int z4, .ref 56]) rfl rfl rfl ?_
      refine hp_getr (k := 4) (w := .ref 56) (pc' := 61) rfl rfl rfl rfl rfl ?_
      refine hp_s (pc' := 62) (st' := [.int k, .ref 56, .int z4, .ref 56]) rfl rfl rfl ?_
      refine hp_ld (t := 100) (v := (rI p 56 k.toInt.toNat)) rfl (.inl rfl) rfl rfl (by rw [ep3, rI_o (by decide), ep2, rI_o (by decide), ep1, rI_o (by decide)]) ?_
      intro (g4a : 0 ≤ k.toInt) (g4b : k.toInt < 40)
      refine hp_st (t := 100) rfl (.inl rfl) rfl rfl ?_
      intro p4 wp4 (p4a : 0 ≤ z4.toInt) (p4b : z4.toInt < 40) ep4
      refine hp_inc (L := fun z => [(1, .int z), (0, .ref 52)]) (pc' := 67) rfl rfl rfl (fun _ => rfl) rfl ?_
      intro z5 hz5
      have ez5 := i_add hz5 (show k.toInt = k.toInt from rfl) (show (Int32.ofInt 1).toInt = 1 from by decide)
      refine hp_go (pc' := 2) rfl rfl rfl ?_
      obtain ⟨n1, d53, d54, d55, d56⟩ := hO
      refine ih _ _ (by omega) (by omega) ⟨by rw [ep4, ep3, ep2, ep1]; exact ((((n1.w rfl).w rfl).w rfl).w rfl), ?_, ?_, ?_, ?_⟩
      · exact hDn_s (i := z1.toInt.toNat) d53 (fun j => by rw [ep4, rV_ne (fun z => absurd z (by decide)), ep3, rV_ne (fun z => absurd z (by decide)), ep2, rV_ne (fun z => absurd z (by decide)), ep1, rV_w wp1 (by show _ < 40; omega)]) (by omega) (by omega) (rV_int wp (r := 53) rfl (by decide) (by show _ < 40; omega))
      · exact hDn_s (i := z2.toInt.toNat) d54 (fun j => by rw [ep4, rV_ne (fun z => absurd z (by decide)), ep3, rV_ne (fun z => absurd z (by decide)), ep2, rV_w wp2 (by show _ < 40; omega), ep1, rV_ne (fun z => absurd z (by decide))]) (by omega) (by omega) (rV_int wp (r := 54) rfl (by decide) (by show _ < 40; omega))
      · exact hDn_s (i := z3.toInt.toNat) d55 (fun j => by rw [ep4, rV_ne (fun z => absurd z (by decide)), ep3, rV_w wp3 (by show _ < 40; omega), ep2, rV_ne (fun z => absurd z (by decide)), ep1, rV_ne (fun z => absurd z (by decide))]) (by omega) (by omega) (rV_int wp (r := 55) rfl (by decide) (by show _ < 40; omega))
      · exact hDn_s (i := z4.toInt.toNat) d56 (fun j => by rw [ep4, rV_w wp4 (by show _ < 40; omega), ep3, rV_ne (fun z => absurd z (by decide)), ep2, rV_ne (fun z => absurd z (by decide)), ep1, rV_ne (fun z => absurd z (by decide))]) (by omega) (by omega) (rV_int wp (r := 56) rfl (by decide) (by show _ < 40; omega))
theorem s_forget {ro : List (List Int32)} {n d : Nat} {p : xH} {Q : Option Value → xH → Prop}   (k0 : ∀ p1 : xH, ∀ p2 : xH, (hNt [(53, 9999), (54, 9999), (55, 9999), (56, 9999)] p p1 ∧ hDn 53 40 p p1 ∧ hDn 54 40 p p1 ∧ hDn 55 40 p p1 ∧ hDn 56 40 p p1) → (hW p1) → (p2 = wV p1 52 5 (.int 39)) → Q none p2) : hP ro n d (0, 2, 1, 0, k2) 0 (lv_args 0 [.ref 52]) [] p Q := by
  refine hp_id (ls := [(0, .ref 52)]) ?_
  refine hp_s (pc' := 1) (st' := [.int 1]) rfl rfl rfl ?_
  refine hp_s (pc' := 2) (ls' := [(1, .int 1), (0, .ref 52)]) (st' := []) rfl rfl rfl ?_
  refine lp_2 (p0 := p) (fun pA kA oA nA => ?_) n 1 _ (by decide) (by decide) ⟨hNt.refl _ _, fun j => by rw [if_neg (by have h00 : (1 : Int32).toInt = 1 := (by decide); omega)], fun j => by rw [if_neg (by have h00 : (1 : Int32).toInt = 1 := (by decide); omega)], fun j => by rw [if_neg (by have h00 : (1 : Int32).toInt = 1 := (by decide); omega)], fun j => by rw [if_neg (by have h00 : (1 : Int32).toInt = 1 := (by decide); omega)]⟩
  refine hp_hw (fun wA => ?_)
  refine hp_s (pc' := 71) (st' := [.ref 52]) rfl rfl rfl ?_
  refine hp_s (pc' := 73) (st' := [.int 39, .ref 52]) rfl rfl rfl ?_
  refine hp_put (k := 5) (pc' := 76) rfl rfl rfl rfl rfl ?_
  intro p1 wp1 ep1
  refine hp_rv rfl rfl ?_
  exact k0 _ _ oA wA (by subst_vars; rfl)
theorem s_make {ro : List (List Int32)} {n d : Nat} {p : xH} {Q : Option Value → xH → Prop} {x : Int32} {xi : Int} {y : Int32} {yi : Int} {b : Int32} {bi : Int} {v : Int32} {vi : Int} (hx : x.toInt = xi) (hy : y.toInt = yi) (hb : b.toInt = bi) (hv : v.toInt = vi) (pre0 : 0 ≤ yi) (pre1 : yi ≤ 4) (kk0 : ∀ p2 : xH, ((rI p 52 5).toInt < 40) → (p2 = hTl (hAdd p x y b v) xi.toNat yi v) → Q none p2) (kk1 : ∀ p1 : xH, ∀ q : xH, ∀ p2 : xH, (40 ≤ (rI p 52 5).toInt) → (hNt [(53, 9999), (54, 9999), (55, 9999), (56, 9999)] p p1 ∧ hDn 53 40 p p1 ∧ hDn 54 40 p p1 ∧ hDn 55 40 p p1 ∧ hDn 56 40 p p1) → (hW p1) → (q = wV p1 52 5 (.int 39)) → (p2 = hTl (hAdd q x y b v) xi.toNat yi v) → Q none p2) : hP ro n d (0, 5, 1, 0, k1) 0 (lv_args 0 [.ref 52, .int x, .int y, .int b, .int v]) [] p Q := by
  subst hx
  subst hy
  subst hb
  subst hv
  refine hp_id (ls := [(0, .ref 52), (1, .int x), (2, .int y), (3, .int b), (4, .int v)]) ?_
  refine hp_s (pc' := 1) (st' := [.ref 52]) rfl rfl rfl ?_
  refine hp_get (k := 5) (pc' := 4) (v := (rI p 52 5)) rfl rfl rfl rfl rfl rfl ?_
  refine hp_s (pc' := 6) (st' := [.int 40, .int (rI p 52 5)]) rfl rfl rfl ?_
  refine hp_ic (pc' := 9) (t := 13) (a := (rI p 52 5).toInt) (b := 40) rfl rfl rfl rfl (by decide) (fun (h1 : (rI p 52 5).toInt < 40) => ?_) (fun (h2 : ¬ ((rI p 52 5).toInt < 40)) => ?_)
  ·
    refine hp_s (pc' := 14) (st' := [.ref 52]) rfl rfl rfl ?_
    refine hp_getr (k := 1) (w := .ref 53) (pc' := 17) rfl rfl rfl rfl rfl ?_
    refine hp_s (pc' := 18) (st' := [.ref 52, .ref 53]) rfl rfl rfl ?_
    refine hp_get (k := 5) (pc' := 21) (v := (rI p 52 5)) rfl rfl rfl rfl rfl rfl ?_
    refine hp_s (pc' := 22) (st' := [.int x, .int (rI p 52 5), .ref 53]) rfl rfl rfl ?_
    refine hp_st (t := 100) rfl (.inl rfl) rfl rfl ?_
    intro p1 wp1 (p1a : 0 ≤ (rI p 52 5).toInt) (p1b : (rI p 52 5).toInt < 40) ep1
    refine hp_s (pc' := 24) (st' := [.ref 52]) rfl rfl rfl ?_
    refine hp_getr (k := 2) (w := .ref 54) (pc' := 27) rfl rfl rfl rfl rfl ?_
    refine hp_s (pc' := 28) (st' := [.ref 52, .ref 54]) rfl rfl rfl ?_
    refine hp_get (k := 5) (pc' := 31) (v := (rI p 52 5)) rfl rfl rfl rfl rfl (by rw [ep1, rI_o (by decide)]) ?_
    refine hp_s (pc' := 32) (st' := [.int y, .int (rI p 52 5), .ref 54]) rfl rfl rfl ?_
    refine hp_st (t := 100) rfl (.inl rfl) rfl rfl ?_
    intro p2 wp2 (p2a : 0 ≤ (rI p 52 5).toInt) (p2b : (rI p 52 5).toInt < 40) ep2
    refine hp_s (pc' := 34) (st' := [.ref 52]) rfl rfl rfl ?_
    refine hp_getr (k := 3) (w := .ref 55) (pc' := 37) rfl rfl rfl rfl rfl ?_
    refine hp_s (pc' := 38) (st' := [.ref 52, .ref 55]) rfl rfl rfl ?_
    refine hp_get (k := 5) (pc' := 41) (v := (rI p 52 5)) rfl rfl rfl rfl rfl (by rw [ep2, rI_o (by decide), ep1, rI_o (by decide)]) ?_
    refine hp_s (pc' := 42) (st' := [.int b, .int (rI p 52 5), .ref 55]) rfl rfl rfl ?_
    refine hp_st (t := 100) rfl (.inl rfl) rfl rfl ?_
    intro p3 wp3 (p3a : 0 ≤ (rI p 52 5).toInt) (p3b : (rI p 52 5).toInt < 40) ep3
    refine hp_s (pc' := 44) (st' := [.ref 52]) rfl rfl rfl ?_
    refine hp_getr (k := 4) (w := .ref 56) (pc' := 47) rfl rfl rfl rfl rfl ?_
    refine hp_s (pc' := 48) (st' := [.ref 52, .ref 56]) rfl rfl rfl ?_
    refine hp_get (k := 5) (pc' := 51) (v := (rI p 52 5)) rfl rfl rfl rfl rfl (by rw [ep3, rI_o (by decide), ep2, rI_o (by decide), ep1, rI_o (by decide)]) ?_
    refine hp_s (pc' := 53) (st' := [.int v, .int (rI p 52 5), .ref 56]) rfl rfl rfl ?_
    refine hp_st (t := 100) rfl (.inl rfl) rfl rfl ?_
    intro p4 wp4 (p4a : 0 ≤ (rI p 52 5).toInt) (p4b : (rI p 52 5).toInt < 40) ep4
    refine hp_s (pc' := 55) (st' := [.ref 52]) rfl rfl rfl ?_
    refine hp_s (pc' := 56) (st' := [.ref 52, .ref 52]) rfl rfl rfl ?_
    refine hp_get (k := 5) (pc' := 59) (v := (rI p 52 5)) rfl rfl rfl rfl rfl (by rw [ep4, rI_o (by decide), ep3, rI_o (by decide), ep2, rI_o (by decide), ep1, rI_o (by decide)]) ?_
    refine hp_s (pc' := 60) (st' := [.int 1, .int (rI p 52 5), .ref 52]) rfl rfl rfl ?_
    refine hp_z (pc' := 61) (e := (rI p 52 5) + 1) (st' := [.ref 52]) rfl rfl rfl ?_
    intro z1 hz1
    have ez1 := i_add hz1 (show (rI p 52 5).toInt = (rI p 52 5).toInt from rfl) (show (1 : Int32).toInt = 1 from by decide)
    refine hp_put (k := 5) (pc' := 64) rfl rfl rfl rfl rfl ?_
    intro p5 wp5 ep5
    refine hp_s (pc' := 65) (st' := [.ref 52]) rfl rfl rfl ?_
    refine hp_s (pc' := 66) (st' := [.ref 52, .ref 52]) rfl rfl rfl ?_
    refine hp_get (k := 5) (pc' := 69) (v := z1) rfl rfl rfl rfl rfl (by rw [ep5, rI_eq wp5 (by decide)]) ?_
    refine hp_put (k := 6) (pc' := 72) rfl rfl rfl rfl rfl ?_
    intro p6 wp6 ep6
    refine hp_s (pc' := 73) (st' := [.ref 52]) rfl rfl rfl ?_
    refine hp_getr (k := 0) (w := .ref 13) (pc' := 76) rfl rfl rfl rfl rfl ?_
    refine hp_s (pc' := 77) (st' := [.int x, .ref 13]) rfl rfl rfl ?_
    refine hp_s (pc' := 78) (st' := [.int y, .int x, .ref 13]) rfl rfl rfl ?_
    refine hp_s (pc' := 80) (st' := [.int v, .int y, .int x, .ref 13]) rfl rfl rfl ?_
    refine hp_cv (r := 13) (o := 1) (kd := 1) (as := [.int x, .int y, .int v]) (rest := []) (pc' := 83) rfl rfl rfl rfl rfl rfl rfl rfl rfl (fun d1 => ?_)
    refine s_tell (xi := x.toInt) rfl (yi := y.toInt) rfl (vi := v.toInt) rfl (by first | assumption | omega | exact (pre0 _).1 | exact (pre0 _).2) (by first | assumption | omega | exact (pre0 _).1 | exact (pre0 _).2) ?_
    intro p7 h3
    refine hp_id (st := []) ?_
    refine hp_rv rfl rfl ?_
    first | (exact kk0 _ (by first | assumption | omega | (subst_vars; rfl)) (by first | assumption | omega | (subst_vars; rfl))) | (exact kk1 _ _ _ (by first | assumption | omega | (subst_vars; rfl)) (by first | assumption | omega | (subst_vars; rfl)) (by first | assumption | omega | (subst_vars; rfl)) (by first | assumption | omega | (subst_vars; rfl)) (by first | assumption | omega | (subst_vars; rfl))) | (exfalso; omega)
  ·
    refine hp_s (pc' := 10) (st' := [.ref 52]) rfl rfl rfl ?_
    refine hp_cv (r := 52) (o := 0) (kd := 1) (as := []) (rest := []) (pc' := 13) rfl rfl rfl rfl rfl rfl rfl rfl rfl (fun d2 => ?_)
    refine s_forget ?_
    intro p8 p9 h4 h5 h6
    refine hp_id (st := []) ?_
    refine hp_s (pc' := 14) (st' := [.ref 52]) rfl rfl rfl ?_
    refine hp_getr (k := 1) (w := .ref 53) (pc' := 17) rfl rfl rfl rfl rfl ?_
    refine hp_s (pc' := 18) (st' := [.ref 52, .ref 53]) rfl rfl rfl ?_
    refine hp_get (k := 5) (pc' := 21) (v := (rI p9 52 5)) rfl rfl rfl rfl rfl rfl ?_
    refine hp_s (pc' := 22) (st' := [.int x, .int (rI p9 52 5), .ref 53]) rfl rfl rfl ?_
    refine hp_st (t := 100) rfl (.inl rfl) rfl rfl ?_
    intro p10 wp10 (p10a : 0 ≤ (rI p9 52 5).toInt) (p10b : (rI p9 52 5).toInt < 40) ep10
    refine hp_s (pc' := 24) (st' := [.ref 52]) rfl rfl rfl ?_
    refine hp_getr (k := 2) (w := .ref 54) (pc' := 27) rfl rfl rfl rfl rfl ?_
    refine hp_s (pc' := 28) (st' := [.ref 52, .ref 54]) rfl rfl rfl ?_
    refine hp_get (k := 5) (pc' := 31) (v := (rI p9 52 5)) rfl rfl rfl rfl rfl (by rw [ep10, rI_o (by decide)]) ?_
    refine hp_s (pc' := 32) (st' := [.int y, .int (rI p9 52 5), .ref 54]) rfl rfl rfl ?_
    refine hp_st (t := 100) rfl (.inl rfl) rfl rfl ?_
    intro p11 wp11 (p11a : 0 ≤ (rI p9 52 5).toInt) (p11b : (rI p9 52 5).toInt < 40) ep11
    refine hp_s (pc' := 34) (st' := [.ref 52]) rfl rfl rfl ?_
    refine hp_getr (k := 3) (w := .ref 55) (pc' := 37) rfl rfl rfl rfl rfl ?_
    refine hp_s (pc' := 38) (st' := [.ref 52, .ref 55]) rfl rfl rfl ?_
    refine hp_get (k := 5) (pc' := 41) (v := (rI p9 52 5)) rfl rfl rfl rfl rfl (by rw [ep11, rI_o (by decide), ep10, rI_o (by decide)]) ?_
    refine hp_s (pc' := 42) (st' := [.int b, .int (rI p9 52 5), .ref 55]) rfl rfl rfl ?_
    refine hp_st (t := 100) rfl (.inl rfl) rfl rfl ?_
    intro p12 wp12 (p12a : 0 ≤ (rI p9 52 5).toInt) (p12b : (rI p9 52 5).toInt < 40) ep12
    refine hp_s (pc' := 44) (st' := [.ref 52]) rfl rfl rfl ?_
    refine hp_getr (k := 4) (w := .ref 56) (pc' := 47) rfl rfl rfl rfl rfl ?_
    refine hp_s (pc' := 48) (st' := [.ref 52, .ref 56]) rfl rfl rfl ?_
    refine hp_get (k := 5) (pc' := 51) (v := (rI p9 52 5)) rfl rfl rfl rfl rfl (by rw [ep12, rI_o (by decide), ep11, rI_o (by decide), ep10, rI_o (by decide)]) ?_
    refine hp_s (pc' := 53) (st' := [.int v, .int (rI p9 52 5), .ref 56]) rfl rfl rfl ?_
    refine hp_st (t := 100) rfl (.inl rfl) rfl rfl ?_
    intro p13 wp13 (p13a : 0 ≤ (rI p9 52 5).toInt) (p13b : (rI p9 52 5).toInt < 40) ep13
    refine hp_s (pc' := 55) (st' := [.ref 52]) rfl rfl rfl ?_
    refine hp_s (pc' := 56) (st' := [.ref 52, .ref 52]) rfl rfl rfl ?_
    refine hp_get (k := 5) (pc' := 59) (v := (rI p9 52 5)) rfl rfl rfl rfl rfl (by rw [ep13, rI_o (by decide), ep12, rI_o (by decide), ep11, rI_o (by decide), ep10, rI_o (by decide)]) ?_
    refine hp_s (pc' := 60) (st' := [.int 1, .int (rI p9 52 5), .ref 52]) rfl rfl rfl ?_
    refine hp_z (pc' := 61) (e := (rI p9 52 5) + 1) (st' := [.ref 52]) rfl rfl rfl ?_
    intro z2 hz2
    have ez2 := i_add hz2 (show (rI p9 52 5).toInt = (rI p9 52 5).toInt from rfl) (show (1 : Int32).toInt = 1 from by decide)
    refine hp_put (k := 5) (pc' := 64) rfl rfl rfl rfl rfl ?_
    intro p14 wp14 ep14
    refine hp_s (pc' := 65) (st' := [.ref 52]) rfl rfl rfl ?_
    refine hp_s (pc' := 66) (st' := [.ref 52, .ref 52]) rfl rfl rfl ?_
    refine hp_get (k := 5) (pc' := 69) (v := z2) rfl rfl rfl rfl rfl (by rw [ep14, rI_eq wp14 (by decide)]) ?_
    refine hp_put (k := 6) (pc' := 72) rfl rfl rfl rfl rfl ?_
    intro p15 wp15 ep15
    refine hp_s (pc' := 73) (st' := [.ref 52]) rfl rfl rfl ?_
    refine hp_getr (k := 0) (w := .ref 13) (pc' := 76) rfl rfl rfl rfl rfl ?_
    refine hp_s (pc' := 77) (st' := [.int x, .ref 13]) rfl rfl rfl ?_
    refine hp_s (pc' := 78) (st' := [.int y, .int x, .ref 13]) rfl rfl rfl ?_
    refine hp_s (pc' := 80) (st' := [.int v, .int y, .int x, .ref 13]) rfl rfl rfl ?_
    refine hp_cv (r := 13) (o := 1) (kd := 1) (as := [.int x, .int y, .int v]) (rest := []) (pc' := 83) rfl rfl rfl rfl rfl rfl rfl rfl rfl (fun d3 => ?_)
    refine s_tell (xi := x.toInt) rfl (yi := y.toInt) rfl (vi := v.toInt) rfl (by first | assumption | omega | exact (pre0 _).1 | exact (pre0 _).2) (by first | assumption | omega | exact (pre0 _).1 | exact (pre0 _).2) ?_
    intro p16 h7
    refine hp_id (st := []) ?_
    refine hp_rv rfl rfl ?_
    first | (exact kk0 _ (by first | assumption | omega | (subst_vars; rfl)) (by first | assumption | omega | (subst_vars; rfl))) | (exact kk1 _ _ _ (by first | assumption | omega | (subst_vars; rfl)) (by first | assumption | omega | (subst_vars; rfl)) (by first | assumption | omega | (subst_vars; rfl)) (by first | assumption | omega | (subst_vars; rfl)) (by first | assumption | omega | (subst_vars; rfl))) | (exfalso; omega)
theorem X_mend {ro : List (List Int32)} {n d : Nat} {p : xH} {Q : Option Value → xH → Prop} {x : Int32} {xi : Int} {y : Int32} {yi : Int} {v : Int32} {vi : Int} (hx : x.toInt = xi) (hy : y.toInt = yi) (hv : v.toInt = vi)  (k0 : (¬ hMay (rI p 13 7).toInt xi yi vi) → Q (some (.int (-1))) p) (k1 : ∀ z : Int32, (hMay (rI p 13 7).toInt xi yi vi) → (z = hTd p xi.toNat yi) → (z.toInt = vi) → Q (some (.int z)) p) (k2 : ∀ z : Int32, ∀ p2 : xH, (hMay (rI p 13 7).toInt xi yi vi) → (z = hTd p xi.toNat yi) → (z.toInt ≠ vi) → ((rI p 52 5).toInt < 40) → (p2 = hTl (hAdd p x y z v) xi.toNat yi v) → Q (some (.int z)) p2) (k3 : ∀ z : Int32, ∀ p1 : xH, ∀ q : xH, ∀ p2 : xH, (hMay (rI p 13 7).toInt xi yi vi) → (z = hTd p xi.toNat yi) → (z.toInt ≠ vi) → (40 ≤ (rI p 52 5).toInt) → (hNt [(53, 9999), (54, 9999), (55, 9999), (56, 9999)] p p1 ∧ hDn 53 40 p p1 ∧ hDn 54 40 p p1 ∧ hDn 55 40 p p1 ∧ hDn 56 40 p p1) → (hW p1) → (q = wV p1 52 5 (.int 39)) → (p2 = hTl (hAdd q x y z v) xi.toNat yi v) → Q (some (.int z)) p2) : hP ro n d (11, 5, 1, 1, k131) 0 (lv_args 0 [.ref 0, .int x, .int y, .int v]) [] p Q := by
  subst hx
  subst hy
  subst hv
  refine hp_id (ls := [(0, .ref 0), (1, .int x), (2, .int y), (3, .int v)]) ?_
  refine hp_s (pc' := 1) (st' := [.ref 0]) rfl rfl rfl ?_
  refine hp_s (pc' := 2) (st' := [.int x, .ref 0]) rfl rfl rfl ?_
  refine hp_s (pc' := 3) (st' := [.int y, .int x, .ref 0]) rfl rfl rfl ?_
  refine hp_s (pc' := 4) (st' := [.int v, .int y, .int x, .ref 0]) rfl rfl rfl ?_
  refine hp_cv (r := 0) (o := 11) (kd := 1) (as := [.int x, .int y, .int v]) (rest := []) (pc' := 7) rfl rfl rfl rfl rfl rfl rfl rfl rfl (fun d1 => ?_)
  refine s_mayBecome (xi := x.toInt) rfl (yi := y.toInt) rfl (vi := v.toInt) rfl ?_ ?_
  ·
    intro h1
    refine hp_id (st := [.int 1]) ?_
    refine hp_go (pc' := 12) rfl rfl rfl ?_
    refine hp_s (pc' := 13) (st' := [.ref 0]) rfl rfl rfl ?_
    refine hp_getr (k := 4) (w := .ref 13) (pc' := 16) rfl rfl rfl rfl rfl ?_
    refine hp_s (pc' := 17) (st' := [.int x, .ref 13]) rfl rfl rfl ?_
    refine hp_s (pc' := 18) (st' := [.int y, .int x, .ref 13]) rfl rfl rfl ?_
    refine hp_cv (r := 13) (o := 1) (kd := 1) (as := [.int x, .int y]) (rest := []) (pc' := 21) rfl rfl rfl rfl rfl rfl rfl rfl rfl (fun d2 => ?_)
    refine s_told (xi := x.toInt) rfl (yi := y.toInt) rfl (by first | assumption | omega | (unfold hMay at *; omega)) (by first | assumption | omega | (unfold hMay at *; omega)) ?_
    intro y1 h2
    refine hp_id (st := [.int y1]) ?_
    refine hp_s (pc' := 23) (ls' := [(4, .int y1), (0, .ref 0), (1, .int x), (2, .int y), (3, .int v)]) (st' := []) rfl rfl rfl ?_
    refine hp_s (pc' := 25) (st' := [.int y1]) rfl rfl rfl ?_
    refine hp_s (pc' := 26) (st' := [.int v, .int y1]) rfl rfl rfl ?_
    refine hp_ic (pc' := 29) (t := 41) (a := y1.toInt) (b := v.toInt) rfl rfl rfl rfl rfl (fun (h3 : y1.toInt = v.toInt) => ?_) (fun (h4 : ¬ (y1.toInt = v.toInt)) => ?_)
    ·
      refine hp_s (pc' := 43) (st' := [.int y1]) rfl rfl rfl ?_
      refine hp_ri rfl rfl ?_
      first | (exact k0 (by first | assumption | omega | (subst_vars; assumption) | (subst_vars; rfl))) | (exact k1 _ (by first | assumption | omega | (subst_vars; assumption) | (subst_vars; rfl)) (by first | assumption | omega | (subst_vars; assumption) | (subst_vars; rfl)) (by first | assumption | omega | (subst_vars; assumption) | (subst_vars; rfl))) | (exact k2 _ _ (by first | assumption | omega | (subst_vars; assumption) | (subst_vars; rfl)) (by first | assumption | omega | (subst_vars; assumption) | (subst_vars; rfl)) (by first | assumption | omega | (subst_vars; assumption) | (subst_vars; rfl)) (by first | assumption | omega | (subst_vars; assumption) | (subst_vars; rfl)) (by first | assumption | omega | (subst_vars; assumption) | (subst_vars; rfl))) | (exact k3 _ _ _ _ (by first | assumption | omega | (subst_vars; assumption) | (subst_vars; rfl)) (by first | assumption | omega | (subst_vars; assumption) | (subst_vars; rfl)) (by first | assumption | omega | (subst_vars; assumption) | (subst_vars; rfl)) (by first | assumption | omega | (subst_vars; assumption) | (subst_vars; rfl)) (by first | assumption | omega | (subst_vars; assumption) | (subst_vars; rfl)) (by first | assumption | omega | (subst_vars; assumption) | (subst_vars; rfl)) (by first | assumption | omega | (subst_vars; assumption) | (subst_vars; rfl)) (by first | assumption | omega | (subst_vars; assumption) | (subst_vars; rfl))) | (exfalso; omega)
    ·
      refine hp_s (pc' := 30) (st' := [.ref 0]) rfl rfl rfl ?_
      refine hp_getr (k := 11) (w := .ref 52) (pc' := 33) rfl rfl rfl rfl rfl ?_
      refine hp_s (pc' := 34) (st' := [.int x, .ref 52]) rfl rfl rfl ?_
      refine hp_s (pc' := 35) (st' := [.int y, .int x, .ref 52]) rfl rfl rfl ?_
      refine hp_s (pc' := 37) (st' := [.int y1, .int y, .int x, .ref 52]) rfl rfl rfl ?_
      refine hp_s (pc' := 38) (st' := [.int v, .int y1, .int y, .int x, .ref 52]) rfl rfl rfl ?_
      refine hp_cv (r := 52) (o := 0) (kd := 1) (as := [.int x, .int y, .int y1, .int v]) (rest := []) (pc' := 41) rfl rfl rfl rfl rfl rfl rfl rfl rfl (fun d3 => ?_)
      refine s_make (xi := x.toInt) rfl (yi := y.toInt) rfl (bi := y1.toInt) rfl (vi := v.toInt) rfl (by first | assumption | omega | (unfold hMay at *; omega)) (by first | assumption | omega | (unfold hMay at *; omega)) ?_ ?_
      ·
        intro p1 h5 h6
        refine hp_id (st := []) ?_
        refine hp_s (pc' := 43) (st' := [.int y1]) rfl rfl rfl ?_
        refine hp_ri rfl rfl ?_
        first | (exact k0 (by first | assumption | omega | (subst_vars; assumption) | (subst_vars; rfl))) | (exact k1 _ (by first | assumption | omega | (subst_vars; assumption) | (subst_vars; rfl)) (by first | assumption | omega | (subst_vars; assumption) | (subst_vars; rfl)) (by first | assumption | omega | (subst_vars; assumption) | (subst_vars; rfl))) | (exact k2 _ _ (by first | assumption | omega | (subst_vars; assumption) | (subst_vars; rfl)) (by first | assumption | omega | (subst_vars; assumption) | (subst_vars; rfl)) (by first | assumption | omega | (subst_vars; assumption) | (subst_vars; rfl)) (by first | assumption | omega | (subst_vars; assumption) | (subst_vars; rfl)) (by first | assumption | omega | (subst_vars; assumption) | (subst_vars; rfl))) | (exact k3 _ _ _ _ (by first | assumption | omega | (subst_vars; assumption) | (subst_vars; rfl)) (by first | assumption | omega | (subst_vars; assumption) | (subst_vars; rfl)) (by first | assumption | omega | (subst_vars; assumption) | (subst_vars; rfl)) (by first | assumption | omega | (subst_vars; assumption) | (subst_vars; rfl)) (by first | assumption | omega | (subst_vars; assumption) | (subst_vars; rfl)) (by first | assumption | omega | (subst_vars; assumption) | (subst_vars; rfl)) (by first | assumption | omega | (subst_vars; assumption) | (subst_vars; rfl)) (by first | assumption | omega | (subst_vars; assumption) | (subst_vars; rfl))) | (exfalso; omega)
      ·
        intro p2 p3 p4 h7 h8 h9 h10 h11
        refine hp_id (st := []) ?_
        refine hp_s (pc' := 43) (st' := [.int y1]) rfl rfl rfl ?_
        refine hp_ri rfl rfl ?_
        first | (exact k0 (by first | assumption | omega | (subst_vars; assumption) | (subst_vars; rfl))) | (exact k1 _ (by first | assumption | omega | (subst_vars; assumption) | (subst_vars; rfl)) (by first | assumption | omega | (subst_vars; assumption) | (subst_vars; rfl)) (by first | assumption | omega | (subst_vars; assumption) | (subst_vars; rfl))) | (exact k2 _ _ (by first | assumption | omega | (subst_vars; assumption) | (subst_vars; rfl)) (by first | assumption | omega | (subst_vars; assumption) | (subst_vars; rfl)) (by first | assumption | omega | (subst_vars; assumption) | (subst_vars; rfl)) (by first | assumption | omega | (subst_vars; assumption) | (subst_vars; rfl)) (by first | assumption | omega | (subst_vars; assumption) | (subst_vars; rfl))) | (exact k3 _ _ _ _ (by first | assumption | omega | (subst_vars; assumption) | (subst_vars; rfl)) (by first | assumption | omega | (subst_vars; assumption) | (subst_vars; rfl)) (by first | assumption | omega | (subst_vars; assumption) | (subst_vars; rfl)) (by first | assumption | omega | (subst_vars; assumption) | (subst_vars; rfl)) (by first | assumption | omega | (subst_vars; assumption) | (subst_vars; rfl)) (by first | assumption | omega | (subst_vars; assumption) | (subst_vars; rfl)) (by first | assumption | omega | (subst_vars; assumption) | (subst_vars; rfl)) (by first | assumption | omega | (subst_vars; assumption) | (subst_vars; rfl))) | (exfalso; omega)
  ·
    intro h12
    refine hp_id (st := [.int 0]) ?_
    refine hp_go (pc' := 10) rfl rfl rfl ?_
    refine hp_s (pc' := 11) (st' := [.int (-1)]) rfl rfl rfl ?_
    refine hp_ri rfl rfl ?_
    first | (exact k0 (by first | assumption | omega | (subst_vars; assumption) | (subst_vars; rfl))) | (exact k1 _ (by first | assumption | omega | (subst_vars; assumption) | (subst_vars; rfl)) (by first | assumption | omega | (subst_vars; assumption) | (subst_vars; rfl)) (by first | assumption | omega | (subst_vars; assumption) | (subst_vars; rfl))) | (exact k2 _ _ (by first | assumption | omega | (subst_vars; assumption) | (subst_vars; rfl)) (by first | assumption | omega | (subst_vars; assumption) | (subst_vars; rfl)) (by first | assumption | omega | (subst_vars; assumption) | (subst_vars; rfl)) (by first | assumption | omega | (subst_vars; assumption) | (subst_vars; rfl)) (by first | assumption | omega | (subst_vars; assumption) | (subst_vars; rfl))) | (exact k3 _ _ _ _ (by first | assumption | omega | (subst_vars; assumption) | (subst_vars; rfl)) (by first | assumption | omega | (subst_vars; assumption) | (subst_vars; rfl)) (by first | assumption | omega | (subst_vars; assumption) | (subst_vars; rfl)) (by first | assumption | omega | (subst_vars; assumption) | (subst_vars; rfl)) (by first | assumption | omega | (subst_vars; assumption) | (subst_vars; rfl)) (by first | assumption | omega | (subst_vars; assumption) | (subst_vars; rfl)) (by first | assumption | omega | (subst_vars; assumption) | (subst_vars; rfl)) (by first | assumption | omega | (subst_vars; assumption) | (subst_vars; rfl))) | (exfalso; omega)
theorem lp_178 {ro : List (List Int32)} {d : Nat} {Q : Option Value → xH → Prop} {x v b : Int32} {p0 : xH} (K : ∀ (p2 : xH) (k : Int32), hNt [(68, 9999), (69, 9999), (70, 9999)] p0 p2 ∧ hDn 68 40 p0 p2 ∧ hDn 69 40 p0 p2 ∧ hDn 70 40 p0 p2 → ∀ n, hP ro n d (12, 5, 1, 1, k178) 87 [(4, .int k), (3, .int b), (0, .ref 66), (1, .int x), (2, .int v)] [] p2 Q) : ∀ (n : Nat) (k : Int32) (p : xH), (1 ≤ k.toInt) → (k.toInt ≤ 40) → (hNt [(68, 9999), (69, 9999), (70, 9999)] p0 p ∧ hDn 68 k.toInt.toNat p0 p ∧ hDn 69 k.toInt.toNat p0 p ∧ hDn 70 k.toInt.toNat p0 p) → hP ro n d (12, 5, 1, 1, k178) 26 [(4, .int k), (3, .int b), (0, .ref 66), (1, .int x), (2, .int v)] [] p Q := by
  intro n
  induction n with
  | zero => intros; exact hp_0
  | succ n ih =>
    intro k p h1 h2 hO
    refine hp_hw (fun wp => ?_)
    refine hp_s1 (pc' := 28) (st' := [.int k]) rfl rfl rfl ?_
    refine hp_s (pc' := 30) (st' := [.int 40, .int k]) rfl rfl rfl ?_
    refine hp_ic (pc' := 33) (t := 87) (a := k.toInt) (b := 40) rfl rfl rfl rfl (by decide) (fun (h1 : 40 ≤ k.toInt) => ?_) (fun (h2 : ¬ (40 ≤ k.toInt)) => ?_)
    ·
      exact K _ _ (by rw [show (40 : Nat) = k.toInt.toNat by omega]; exact hO) n
    ·
      refine hp_s (pc' := 34) (st' := [.ref 66]) rfl rfl rfl ?_
      refine hp_getr (k := 1) (w := .ref 68) (pc' := 37) rfl rfl rfl rfl rfl ?_
      refine hp_s (pc' := 39) (st' := [.int k, .ref 68]) rfl rfl rfl ?_
      refine hp_s (pc' := 40) (st' := [.int 1, .int k, .ref 68]) rfl rfl rfl ?_
      refine hp_z (pc' := 41) (e := k - 1) (st' := [.ref 68]) rfl rfl rfl ?_
      intro z1 hz1
      have ez1 := i_sub hz1 (show k.toInt = k.toInt from rfl) (show (1 : Int32).toInt = 1 from by decide)
      refine hp_s (pc' := 42) (st' := [.ref 66, .int z1, .ref 68]) rfl rfl rfl ?_
      refine hp_getr (k := 1) (w := .ref 68) (pc' := 45) rfl rfl rfl rfl rfl ?_
      refine hp_s (pc' := 47) (st' := [.int k, .ref 68, .int z1, .ref 68]) rfl rfl rfl ?_
      refine hp_ld (t := 100) (v := (rI p 68 k.toInt.toNat)) rfl (.inl rfl) rfl rfl rfl ?_
      intro (g1a : 0 ≤ k.toInt) (g1b : k.toInt < 40)
      refine hp_st (t := 100) rfl (.inl rfl) rfl rfl ?_
      intro p1 wp1 (p1a : 0 ≤ z1.toInt) (p1b : z1.toInt < 40) ep1
      refine hp_s (pc' := 50) (st' := [.ref 66]) rfl rfl rfl ?_
      refine hp_getr (k := 2) (w := .ref 69) (pc' := 53) rfl rfl rfl rfl rfl ?_
      refine hp_s (pc' := 55) (st' := [.int k, .ref 69]) rfl rfl rfl ?_
      refine hp_s (pc' := 56) (st' := [.int 1, .int k, .ref 69]) rfl rfl rfl ?_
      refine hp_z (pc' := 57) (e := k - 1) (st' := [.ref 69]) rfl rfl rfl ?_
      intro z2 hz2
      have ez2 := i_sub hz2 (show k.toInt = k.toInt from rfl) (show (1 : Int32).toInt = 1 from by decide)
      refine hp_s (pc' := 58) (st' := [.ref 66, .int z2, .ref 69]) rfl rfl rfl ?_
      refine hp_getr (k := 2) (w := .ref 69) (pc' := 61) rfl rfl rfl rfl rfl ?_
      refine hp_s (pc' := 63) (st' := [.int k, .ref 69, .int z2, .ref 69]) rfl rfl rfl ?_
      refine hp_ld (t := 100) (v := (rI p 69 k.toInt.toNat)) rfl (.inl rfl) rfl rfl (by rw [ep1, rI_o (by decide)]) ?_
      intro (g2a : 0 ≤ k.toInt) (g2b : k.toInt < 40)
      refine hp_st (t := 100) rfl (.inl rfl) rfl rfl ?_
      intro p2 wp2 (p2a : 0 ≤ z2.toInt) (p2b : z2.toInt < 40) ep2
      refine hp_s (pc' := 66) (st' := [.ref 66]) rfl rfl rfl ?_
      refine hp_getr (k := 3) (w := .ref 70) (pc' := 69) rfl rfl rfl rfl rfl ?_
      refine hp_s (pc' := 71) (st' := [.int k, .ref 70]) rfl rfl rfl ?_
      refine hp_s (pc' := 72) (st' := [.int 1, .int k, .ref 70]) rfl rfl rfl ?_
      refine hp_z (pc' := 73) (e := k - 1) (st' := [.ref 70]) rfl rfl rfl ?_
      intro z3 hz3
      have ez3 := i_sub hz3 (show k.toInt = k.toInt from rfl) (show (1 : Int32).toInt = 1 from by decide)
      refine hp_s (pc' := 74) (st' := [.ref 66, .int z3, .ref 70]) rfl rfl rfl ?_
      refine hp_getr (k := 3) (w := .ref 70) (pc' := 77) rfl rfl rfl rfl rfl ?_
      refine hp_s (pc' := 79) (st' := [.int k, .ref 70, .int z3, .ref 70]) rfl rfl rfl ?_
      refine hp_ld (t := 100) (v := (rI p 70 k.toInt.toNat)) rfl (.inl rfl) rfl rfl (by rw [ep2, rI_o (by decide), ep1, rI_o (by decide)]) ?_
      intro (g3a : 0 ≤ k.toInt) (g3b : k.toInt < 40)
      refine hp_st (t := 100) rfl (.inl rfl) rfl rfl ?_
      intro p3 wp3 (p3a : 0 ≤ z3.toInt) (p3b : z3.toInt < 40) ep3
      refine hp_inc (L := fun z => [(4, .int z), (3, .int b), (0, .ref 66), (1, .int x), (2, .int v)]) (pc' := 84) rfl rfl rfl (fun _ => rfl) rfl ?_
      intro z4 hz4
      have ez4 := i_add hz4 (show k.toInt = k.toInt from rfl) (show (Int32.ofInt 1).toInt = 1 from by decide)
      refine hp_go (pc' := 26) rfl rfl rfl ?_
      obtain ⟨n1, d68, d69, d70⟩ := hO
      refine ih _ _ (by omega) (by omega) ⟨by rw [ep3, ep2, ep1]; exact (((n1.w rfl).w rfl).w rfl), ?_, ?_, ?_⟩
      · exact hDn_s (i := z1.toInt.toNat) d68 (fun j => by rw [ep3, rV_ne (fun z => absurd z (by decide)), ep2, rV_ne (fun z => absurd z (by decide)), ep1, rV_w wp1 (by show _ < 40; omega)]) (by omega) (by omega) (rV_int wp (r := 68) rfl (by decide) (by show _ < 40; omega))
      · exact hDn_s (i := z2.toInt.toNat) d69 (fun j => by rw [ep3, rV_ne (fun z => absurd z (by decide)), ep2, rV_w wp2 (by show _ < 40; omega), ep1, rV_ne (fun z => absurd z (by decide))]) (by omega) (by omega) (rV_int wp (r := 69) rfl (by decide) (by show _ < 40; omega))
      · exact hDn_s (i := z3.toInt.toNat) d70 (fun j => by rw [ep3, rV_w wp3 (by show _ < 40; omega), ep2, rV_ne (fun z => absurd z (by decide)), ep1, rV_ne (fun z => absurd z (by decide))]) (by omega) (by omega) (rV_int wp (r := 70) rfl (by decide) (by show _ < 40; omega))
theorem M_becomes {ro : List (List Int32)} {n d : Nat} {p : xH} {Q : Option Value → xH → Prop} {x : Int32} {xi : Int} {v : Int32} {vi : Int} (hx : x.toInt = xi) (hv : v.toInt = vi)  (k0 : ((rI p 67 xi.toNat).toInt = vi) → Q (some (.int (rI p 67 xi.toNat))) p) (k1 : ∀ p2 : xH, ((rI p 67 xi.toNat).toInt ≠ vi) → ((rI p 66 5).toInt ≠ 40) → (p2 = wV (hAddM p (rI p 66 5) x (rI p 67 xi.toNat) v) 67 xi.toNat (.int v)) → Q (some (.int (rI p 67 xi.toNat))) p2) (k2 : ∀ p1 : xH, ∀ z : Int32, ∀ q : xH, ∀ p2 : xH, ((rI p 67 xi.toNat).toInt ≠ vi) → ((rI p 66 5).toInt = 40) → (hNt [(68, 9999), (69, 9999), (70, 9999)] p p1 ∧ hDn 68 40 p p1 ∧ hDn 69 40 p p1 ∧ hDn 70 40 p p1) → (hW p1) → (z = rI p1 66 5 - 1) → (q = wV p1 66 5 (.int z)) → (p2 = wV (hAddM q z x (rI p 67 xi.toNat) v) 67 xi.toNat (.int v)) → Q (some (.int (rI p 67 xi.toNat))) p2) : hP ro n d (12, 5, 1, 1, k178) 0 (lv_args 0 [.ref 66, .int x, .int v]) [] p Q := by
  subst hx
  subst hv
  refine hp_id (ls := [(0, .ref 66), (1, .int x), (2, .int v)]) ?_
  refine hp_s (pc' := 1) (st' := [.ref 66]) rfl rfl rfl ?_
  refine hp_getr (k := 0) (w := .ref 67) (pc' := 4) rfl rfl rfl rfl rfl ?_
  refine hp_s (pc' := 5) (st' := [.int x, .ref 67]) rfl rfl rfl ?_
  refine hp_ld (t := 100) (v := (rI p 67 x.toInt.toNat)) rfl (.inl rfl) rfl rfl rfl ?_
  intro (g1a : 0 ≤ x.toInt) (g1b : x.toInt < 23)
  refine hp_s (pc' := 7) (ls' := [(3, .int (rI p 67 x.toInt.toNat)), (0, .ref 66), (1, .int x), (2, .int v)]) (st' := []) rfl rfl rfl ?_
  refine hp_s (pc' := 8) (st' := [.int (rI p 67 x.toInt.toNat)]) rfl rfl rfl ?_
  refine hp_s (pc' := 9) (st' := [.int v, .int (rI p 67 x.toInt.toNat)]) rfl rfl rfl ?_
  refine hp_ic (pc' := 12) (t := 14) (a := (rI p 67 x.toInt.toNat).toInt) (b := v.toInt) rfl rfl rfl rfl rfl (fun (h1 : (rI p 67 x.toInt.toNat).toInt ≠ v.toInt) => ?_) (fun (h2 : ¬ ((rI p 67 x.toInt.toNat).toInt ≠ v.toInt)) => ?_)
  ·
    refine hp_s (pc' := 15) (st' := [.ref 66]) rfl rfl rfl ?_
    refine hp_get (k := 5) (pc' := 18) (v := (rI p 66 5)) rfl rfl rfl rfl rfl rfl ?_
    refine hp_s (pc' := 20) (st' := [.int 40, .int (rI p 66 5)]) rfl rfl rfl ?_
    refine hp_ic (pc' := 23) (t := 97) (a := (rI p 66 5).toInt) (b := 40) rfl rfl rfl rfl (by decide) (fun (h3 : (rI p 66 5).toInt ≠ 40) => ?_) (fun (h4 : ¬ ((rI p 66 5).toInt ≠ 40)) => ?_)
    ·
      refine hp_s (pc' := 98) (st' := [.ref 66]) rfl rfl rfl ?_
      refine hp_getr (k := 1) (w := .ref 68) (pc' := 101) rfl rfl rfl rfl rfl ?_
      refine hp_s (pc' := 102) (st' := [.ref 66, .ref 68]) rfl rfl rfl ?_
      refine hp_get (k := 5) (pc' := 105) (v := (rI p 66 5)) rfl rfl rfl rfl rfl rfl ?_
      refine hp_s (pc' := 106) (st' := [.int x, .int (rI p 66 5), .ref 68]) rfl rfl rfl ?_
      refine hp_st (t := 100) rfl (.inl rfl) rfl rfl ?_
      intro p1 wp1 (p1a : 0 ≤ (rI p 66 5).toInt) (p1b : (rI p 66 5).toInt < 40) ep1
      refine hp_s (pc' := 108) (st' := [.ref 66]) rfl rfl rfl ?_
      refine hp_getr (k := 2) (w := .ref 69) (pc' := 111) rfl rfl rfl rfl rfl ?_
      refine hp_s (pc' := 112) (st' := [.ref 66, .ref 69]) rfl rfl rfl ?_
      refine hp_get (k := 5) (pc' := 115) (v := (rI p 66 5)) rfl rfl rfl rfl rfl (by rw [ep1, rI_o (by decide)]) ?_
      refine hp_s (pc' := 116) (st' := [.int (rI p 67 x.toInt.toNat), .int (rI p 66 5), .ref 69]) rfl rfl rfl ?_
      refine hp_st (t := 100) rfl (.inl rfl) rfl rfl ?_
      intro p2 wp2 (p2a : 0 ≤ (rI p 66 5).toInt) (p2b : (rI p 66 5).toInt < 40) ep2
      refine hp_s (pc' := 118) (st' := [.ref 66]) rfl rfl rfl ?_
      refine hp_getr (k := 3) (w := .ref 70) (pc' := 121) rfl rfl rfl rfl rfl ?_
      refine hp_s (pc' := 122) (st' := [.ref 66, .ref 70]) rfl rfl rfl ?_
      refine hp_get (k := 5) (pc' := 125) (v := (rI p 66 5)) rfl rfl rfl rfl rfl (by rw [ep2, rI_o (by decide), ep1, rI_o (by decide)]) ?_
      refine hp_s (pc' := 126) (st' := [.int v, .int (rI p 66 5), .ref 70]) rfl rfl rfl ?_
      refine hp_st (t := 100) rfl (.inl rfl) rfl rfl ?_
      intro p3 wp3 (p3a : 0 ≤ (rI p 66 5).toInt) (p3b : (rI p 66 5).toInt < 40) ep3
      refine hp_s (pc' := 128) (st' := [.ref 66]) rfl rfl rfl ?_
      refine hp_s (pc' := 129) (st' := [.ref 66, .ref 66]) rfl rfl rfl ?_
      refine hp_get (k := 5) (pc' := 132) (v := (rI p 66 5)) rfl rfl rfl rfl rfl (by rw [ep3, rI_o (by decide), ep2, rI_o (by decide), ep1, rI_o (by decide)]) ?_
      refine hp_s (pc' := 133) (st' := [.int 1, .int (rI p 66 5), .ref 66]) rfl rfl rfl ?_
      refine hp_z (pc' := 134) (e := (rI p 66 5) + 1) (st' := [.ref 66]) rfl rfl rfl ?_
      intro z1 hz1
      have ez1 := i_add hz1 (show (rI p 66 5).toInt = (rI p 66 5).toInt from rfl) (show (1 : Int32).toInt = 1 from by decide)
      refine hp_put (k := 5) (pc' := 137) rfl rfl rfl rfl rfl ?_
      intro p4 wp4 ep4
      refine hp_s (pc' := 138) (st' := [.ref 66]) rfl rfl rfl ?_
      refine hp_s (pc' := 139) (st' := [.ref 66, .ref 66]) rfl rfl rfl ?_
      refine hp_get (k := 5) (pc' := 142) (v := z1) rfl rfl rfl rfl rfl (by rw [ep4, rI_eq wp4 (by decide)]) ?_
      refine hp_put (k := 4) (pc' := 145) rfl rfl rfl rfl rfl ?_
      intro p5 wp5 ep5
      refine hp_s (pc' := 146) (st' := [.ref 66]) rfl rfl rfl ?_
      refine hp_getr (k := 0) (w := .ref 67) (pc' := 149) rfl rfl rfl rfl rfl ?_
      refine hp_s (pc' := 150) (st' := [.int x, .ref 67]) rfl rfl rfl ?_
      refine hp_s (pc' := 151) (st' := [.int v, .int x, .ref 67]) rfl rfl rfl ?_
      refine hp_st (t := 100) rfl (.inl rfl) rfl rfl ?_
      intro p6 wp6 (p6a : 0 ≤ x.toInt) (p6b : x.toInt < 23) ep6
      refine hp_s (pc' := 153) (st' := [.int (rI p 67 x.toInt.toNat)]) rfl rfl rfl ?_
      refine hp_ri rfl rfl ?_
      first | (exact k0 (by first | assumption | omega)) | (exact k1 _ (by first | assumption | omega) (by first | assumption | omega) (by subst_vars; rfl)) | (exact k2 _ _ _ _ (by first | assumption | omega) (by first | assumption | omega) oA wA rfl (by subst_vars; rfl) (by subst_vars; rfl))
    ·
      refine hp_s (pc' := 24) (st' := [.int 1]) rfl rfl rfl ?_
      refine hp_s (pc' := 26) (ls' := [(4, .int 1), (3, .int (rI p 67 x.toInt.toNat)), (0, .ref 66), (1, .int x), (2, .int v)]) (st' := []) rfl rfl rfl ?_
      refine lp_178 (p0 := p) (x := x) (v := v) (fun pA kA oA nA => ?_) n 1 _ (by decide) (by decide) ⟨hNt.refl _ _, fun j => by rw [if_neg (by have h00 : (1 : Int32).toInt = 1 := (by decide); omega)], fun j => by rw [if_neg (by have h00 : (1 : Int32).toInt = 1 := (by decide); omega)], fun j => by rw [if_neg (by have h00 : (1 : Int32).toInt = 1 := (by decide); omega)]⟩
      refine hp_hw (fun wA => ?_)
      refine hp_s (pc' := 88) (st' := [.ref 66]) rfl rfl rfl ?_
      refine hp_s (pc' := 89) (st' := [.ref 66, .ref 66]) rfl rfl rfl ?_
      refine hp_get (k := 5) (pc' := 92) (v := (rI pA 66 5)) rfl rfl rfl rfl rfl rfl ?_
      refine hp_s (pc' := 93) (st' := [.int 1, .int (rI pA 66 5), .ref 66]) rfl rfl rfl ?_
      refine hp_z (pc' := 94) (e := (rI pA 66 5) - 1) (st' := [.ref 66]) rfl rfl rfl ?_
      intro z2 hz2
      have ez2 := i_sub hz2 (show (rI pA 66 5).toInt = (rI pA 66 5).toInt from rfl) (show (1 : Int32).toInt = 1 from by decide)
      refine hp_put (k := 5) (pc' := 97) rfl rfl rfl rfl rfl ?_
      intro p7 wp7 ep7
      refine hp_s (pc' := 98) (st' := [.ref 66]) rfl rfl rfl ?_
      refine hp_getr (k := 1) (w := .ref 68) (pc' := 101) rfl rfl rfl rfl rfl ?_
      refine hp_s (pc' := 102) (st' := [.ref 66, .ref 68]) rfl rfl rfl ?_
      refine hp_get (k := 5) (pc' := 105) (v := z2) rfl rfl rfl rfl rfl (by rw [ep7, rI_eq wp7 (by decide)]) ?_
      refine hp_s (pc' := 106) (st' := [.int x, .int z2, .ref 68]) rfl rfl rfl ?_
      refine hp_st (t := 100) rfl (.inl rfl) rfl rfl ?_
      intro p8 wp8 (p8a : 0 ≤ z2.toInt) (p8b : z2.toInt < 40) ep8
      refine hp_s (pc' := 108) (st' := [.ref 66]) rfl rfl rfl ?_
      refine hp_getr (k := 2) (w := .ref 69) (pc' := 111) rfl rfl rfl rfl rfl ?_
      refine hp_s (pc' := 112) (st' := [.ref 66, .ref 69]) rfl rfl rfl ?_
      refine hp_get (k := 5) (pc' := 115) (v := z2) rfl rfl rfl rfl rfl (by rw [ep8, rI_o (by decide), ep7, rI_eq wp7 (by decide)]) ?_
      refine hp_s (pc' := 116) (st' := [.int (rI p 67 x.toInt.toNat), .int z2, .ref 69]) rfl rfl rfl ?_
      refine hp_st (t := 100) rfl (.inl rfl) rfl rfl ?_
      intro p9 wp9 (p9a : 0 ≤ z2.toInt) (p9b : z2.toInt < 40) ep9
      refine hp_s (pc' := 118) (st' := [.ref 66]) rfl rfl rfl ?_
      refine hp_getr (k := 3) (w := .ref 70) (pc' := 121) rfl rfl rfl rfl rfl ?_
      refine hp_s (pc' := 122) (st' := [.ref 66, .ref 70]) rfl rfl rfl ?_
      refine hp_get (k := 5) (pc' := 125) (v := z2) rfl rfl rfl rfl rfl (by rw [ep9, rI_o (by decide), ep8, rI_o (by decide), ep7, rI_eq wp7 (by decide)]) ?_
      refine hp_s (pc' := 126) (st' := [.int v, .int z2, .ref 70]) rfl rfl rfl ?_
      refine hp_st (t := 100) rfl (.inl rfl) rfl rfl ?_
      intro p10 wp10 (p10a : 0 ≤ z2.toInt) (p10b : z2.toInt < 40) ep10
      refine hp_s (pc' := 128) (st' := [.ref 66]) rfl rfl rfl ?_
      refine hp_s (pc' := 129) (st' := [.ref 66, .ref 66]) rfl rfl rfl ?_
      refine hp_get (k := 5) (pc' := 132) (v := z2) rfl rfl rfl rfl rfl (by rw [ep10, rI_o (by decide), ep9, rI_o (by decide), ep8, rI_o (by decide), ep7, rI_eq wp7 (by decide)]) ?_
      refine hp_s (pc' := 133) (st' := [.int 1, .int z2, .ref 66]) rfl rfl rfl ?_
      refine hp_z (pc' := 134) (e := z2 + 1) (st' := [.ref 66]) rfl rfl rfl ?_
      intro z3 hz3
      have ez3 := i_add hz3 (show z2.toInt = z2.toInt from rfl) (show (1 : Int32).toInt = 1 from by decide)
      refine hp_put (k := 5) (pc' := 137) rfl rfl rfl rfl rfl ?_
      intro p11 wp11 ep11
      refine hp_s (pc' := 138) (st' := [.ref 66]) rfl rfl rfl ?_
      refine hp_s (pc' := 139) (st' := [.ref 66, .ref 66]) rfl rfl rfl ?_
      refine hp_get (k := 5) (pc' := 142) (v := z3) rfl rfl rfl rfl rfl (by rw [ep11, rI_eq wp11 (by decide)]) ?_
      refine hp_put (k := 4) (pc' := 145) rfl rfl rfl rfl rfl ?_
      intro p12 wp12 ep12
      refine hp_s (pc' := 146) (st' := [.ref 66]) rfl rfl rfl ?_
      refine hp_getr (k := 0) (w := .ref 67) (pc' := 149) rfl rfl rfl rfl rfl ?_
      refine hp_s (pc' := 150) (st' := [.int x, .ref 67]) rfl rfl rfl ?_
      refine hp_s (pc' := 151) (st' := [.int v, .int x, .ref 67]) rfl rfl rfl ?_
      refine hp_st (t := 100) rfl (.inl rfl) rfl rfl ?_
      intro p13 wp13 (p13a : 0 ≤ x.toInt) (p13b : x.toInt < 23) ep13
      refine hp_s (pc' := 153) (st' := [.int (rI p 67 x.toInt.toNat)]) rfl rfl rfl ?_
      refine hp_ri rfl rfl ?_
      first | (exact k0 (by first | assumption | omega)) | (exact k1 _ (by first | assumption | omega) (by first | assumption | omega) (by subst_vars; rfl)) | (exact k2 _ _ _ _ (by first | assumption | omega) (by first | assumption | omega) oA wA rfl (by subst_vars; rfl) (by subst_vars; rfl))
  ·
    refine hp_s (pc' := 13) (st' := [.int (rI p 67 x.toInt.toNat)]) rfl rfl rfl ?_
    refine hp_ri rfl rfl ?_
    first | (exact k0 (by first | assumption | omega)) | (exact k1 _ (by first | assumption | omega) (by first | assumption | omega) (by subst_vars; rfl)) | (exact k2 _ _ _ _ (by first | assumption | omega) (by first | assumption | omega) oA wA rfl (by subst_vars; rfl) (by subst_vars; rfl))
theorem M_mend {ro : List (List Int32)} {n d : Nat} {p : xH} {Q : Option Value → xH → Prop} {x : Int32} {xi : Int} {y : Int32} {yi : Int} {v : Int32} {vi : Int} (hx : x.toInt = xi) (hy : y.toInt = yi) (hv : v.toInt = vi) (pre0 : 0 ≤ (rI p 66 6).toInt) (pre1 : (rI p 66 6).toInt ≤ 7) (k0 : (¬ hMay (rI p 66 6).toInt xi yi vi) → Q (some (.int (-1))) p) (k1 : ∀ a : Int32, ∀ z : Int32, (hMay (rI p 66 6).toInt xi yi vi) → (a.toInt = hAt xi yi) → (z = (rI p 67 a.toInt.toNat)) → (z.toInt = vi) → Q (some (.int z)) p) (k2 : ∀ a : Int32, ∀ z : Int32, ∀ p2 : xH, (hMay (rI p 66 6).toInt xi yi vi) → (a.toInt = hAt xi yi) → (z = (rI p 67 a.toInt.toNat)) → (z.toInt ≠ vi) → ((rI p 66 5).toInt ≠ 40) → (p2 = wV (hAddM p (rI p 66 5) a z v) 67 a.toInt.toNat (.int v)) → Q (some (.int z)) p2) (k3 : ∀ a : Int32, ∀ z : Int32, ∀ p1 : xH, ∀ u : Int32, ∀ q : xH, ∀ p2 : xH, (hMay (rI p 66 6).toInt xi yi vi) → (a.toInt = hAt xi yi) → (z = (rI p 67 a.toInt.toNat)) → (z.toInt ≠ vi) → ((rI p 66 5).toInt = 40) → (hNt [(68, 9999), (69, 9999), (70, 9999)] p p1 ∧ hDn 68 40 p p1 ∧ hDn 69 40 p p1 ∧ hDn 70 40 p p1) → (hW p1) → (u = rI p1 66 5 - 1) → (q = wV p1 66 5 (.int u)) → (p2 = wV (hAddM q u a z v) 67 a.toInt.toNat (.int v)) → Q (some (.int z)) p2) : hP ro n d (12, 4, 1, 1, k190) 0 (lv_args 0 [.ref 66, .int x, .int y, .int v]) [] p Q := by
  subst hx
  subst hy
  subst hv
  refine hp_id (ls := [(0, .ref 66), (1, .int x), (2, .int y), (3, .int v)]) ?_
  refine hp_s (pc' := 1) (st' := [.int y]) rfl rfl rfl ?_
  by_cases h1 : y.toInt = 0
  ·
    refine hp_sw (v := 0) (t := 36) rfl rfl (h1) rfl ?_
    refine hp_s (pc' := 37) (st' := [.ref 66]) rfl rfl rfl ?_
    refine hp_s (pc' := 38) (st' := [.int x, .ref 66]) rfl rfl rfl ?_
    refine hp_cv (r := 66) (o := 12) (kd := 1) (as := [.int x]) (rest := []) (pc' := 41) rfl rfl rfl rfl rfl rfl rfl rfl rfl (fun d1 => ?_)
    refine s_isPerson (xi := x.toInt) rfl (by first | assumption | omega) ?_ ?_
    ·
      intro h2 h3
      refine hp_id (st := [.int 1]) ?_
      refine hp_go (pc' := 44) rfl rfl rfl ?_
      refine hp_s (pc' := 45) (st' := [.int v]) rfl rfl rfl ?_
      refine hp_i2l (pc' := 46) rfl rfl ?_
      intro z1 hz1 ez1
      refine hp_cs (kd := 0) (as := [.long z1]) (rest := []) (pc' := 49) rfl rfl rfl rfl rfl rfl rfl (fun d2 => ?_)
      refine s_areLooks (xi := v.toInt) ez1 ?_ ?_
      ·
        intro h4 h5
        refine hp_id (st := [.int 1]) ?_
        refine hp_go (pc' := 52) rfl rfl rfl ?_
        refine hp_s (pc' := 53) (st' := [.ref 66]) rfl rfl rfl ?_
        refine hp_s (pc' := 55) (st' := [.int 7, .ref 66]) rfl rfl rfl ?_
        refine hp_s (pc' := 56) (st' := [.int y, .int 7, .ref 66]) rfl rfl rfl ?_
        refine hp_z (pc' := 57) (e := 7 * y) (st' := [.ref 66]) rfl rfl rfl ?_
        intro z2 hz2
        have ez2 := i_mul hz2 (show (7 : Int32).toInt = 7 from by decide) (show y.toInt = y.toInt from rfl)
        refine hp_s (pc' := 58) (st' := [.int x, .int z2, .ref 66]) rfl rfl rfl ?_
        refine hp_z (pc' := 59) (e := z2 + x) (st' := [.ref 66]) rfl rfl rfl ?_
        intro z3 hz3
        have ez3 := i_add hz3 (show z2.toInt = z2.toInt from rfl) (show x.toInt = x.toInt from rfl)
        refine hp_s (pc' := 60) (st' := [.int v, .int z3, .ref 66]) rfl rfl rfl ?_
        refine hp_cv (r := 66) (o := 12) (kd := 1) (as := [.int z3, .int v]) (rest := []) (pc' := 63) rfl rfl rfl rfl rfl rfl rfl rfl rfl (fun d3 => ?_)
        refine M_becomes (xi := z3.toInt) rfl (vi := v.toInt) rfl ?_ ?_ ?_
        ·
          intro h6
          refine hp_id (st := [.int (rI p 67 z3.toInt.toNat)]) ?_
          refine hp_go (pc' := 67) rfl rfl rfl ?_
          refine hp_ri rfl rfl ?_
          first | (exact k1 z3 _ (by first | assumption | omega | (unfold hMay; omega)) (show z3.toInt = hAt _ _ from by unfold hAt; first | (rw [if_pos (by omega)]; omega) | (rw [if_neg (by omega)]; omega)) rfl (by assumption)) | (exact k2 z3 _ _ (by first | assumption | omega | (unfold hMay; omega)) (show z3.toInt = hAt _ _ from by unfold hAt; first | (rw [if_pos (by omega)]; omega) | (rw [if_neg (by omega)]; omega)) rfl (by assumption) (by assumption) (by assumption)) | (exact k3 z3 _ _ _ _ _ (by first | assumption | omega | (unfold hMay; omega)) (show z3.toInt = hAt _ _ from by unfold hAt; first | (rw [if_pos (by omega)]; omega) | (rw [if_neg (by omega)]; omega)) rfl (by assumption) (by assumption) (by assumption) (by assumption) (by assumption) (by assumption) (by assumption))
        ·
          intro p1 h7 h8 h9
          refine hp_id (st := [.int (rI p 67 z3.toInt.toNat)]) ?_
          refine hp_go (pc' := 67) rfl rfl rfl ?_
          refine hp_ri rfl rfl ?_
          first | (exact k1 z3 _ (by first | assumption | omega | (unfold hMay; omega)) (show z3.toInt = hAt _ _ from by unfold hAt; first | (rw [if_pos (by omega)]; omega) | (rw [if_neg (by omega)]; omega)) rfl (by assumption)) | (exact k2 z3 _ _ (by first | assumption | omega | (unfold hMay; omega)) (show z3.toInt = hAt _ _ from by unfold hAt; first | (rw [if_pos (by omega)]; omega) | (rw [if_neg (by omega)]; omega)) rfl (by assumption) (by assumption) (by assumption)) | (exact k3 z3 _ _ _ _ _ (by first | assumption | omega | (unfold hMay; omega)) (show z3.toInt = hAt _ _ from by unfold hAt; first | (rw [if_pos (by omega)]; omega) | (rw [if_neg (by omega)]; omega)) rfl (by assumption) (by assumption) (by assumption) (by assumption) (by assumption) (by assumption) (by assumption))
        ·
          intro p2 y1 p3 p4 h10 h11 h12 h13 h14 h15 h16
          refine hp_id (st := [.int (rI p 67 z3.toInt.toNat)]) ?_
          refine hp_go (pc' := 67) rfl rfl rfl ?_
          refine hp_ri rfl rfl ?_
          first | (exact k1 z3 _ (by first | assumption | omega | (unfold hMay; omega)) (show z3.toInt = hAt _ _ from by unfold hAt; first | (rw [if_pos (by omega)]; omega) | (rw [if_neg (by omega)]; omega)) rfl (by assumption)) | (exact k2 z3 _ _ (by first | assumption | omega | (unfold hMay; omega)) (show z3.toInt = hAt _ _ from by unfold hAt; first | (rw [if_pos (by omega)]; omega) | (rw [if_neg (by omega)]; omega)) rfl (by assumption) (by assumption) (by assumption)) | (exact k3 z3 _ _ _ _ _ (by first | assumption | omega | (unfold hMay; omega)) (show z3.toInt = hAt _ _ from by unfold hAt; first | (rw [if_pos (by omega)]; omega) | (rw [if_neg (by omega)]; omega)) rfl (by assumption) (by assumption) (by assumption) (by assumption) (by assumption) (by assumption) (by assumption))
      ·
        intro h17
        refine hp_id (st := [.int 0]) ?_
        refine hp_go (pc' := 66) rfl rfl rfl ?_
        refine hp_s (pc' := 67) (st' := [.int (-1)]) rfl rfl rfl ?_
        refine hp_ri rfl rfl ?_
        exact k0 (by first | assumption | omega | (unfold hMay; omega))
    ·
      intro h18
      refine hp_id (st := [.int 0]) ?_
      refine hp_go (pc' := 66) rfl rfl rfl ?_
      refine hp_s (pc' := 67) (st' := [.int (-1)]) rfl rfl rfl ?_
      refine hp_ri rfl rfl ?_
      exact k0 (by first | assumption | omega | (unfold hMay; omega))
  by_cases h19 : y.toInt = 1
  ·
    refine hp_sw (v := 1) (t := 36) rfl rfl (h19) rfl ?_
    refine hp_s (pc' := 37) (st' := [.ref 66]) rfl rfl rfl ?_
    refine hp_s (pc' := 38) (st' := [.int x, .ref 66]) rfl rfl rfl ?_
    refine hp_cv (r := 66) (o := 12) (kd := 1) (as := [.int x]) (rest := []) (pc' := 41) rfl rfl rfl rfl rfl rfl rfl rfl rfl (fun d4 => ?_)
    refine s_isPerson (xi := x.toInt) rfl (by first | assumption | omega) ?_ ?_
    ·
      intro h20 h21
      refine hp_id (st := [.int 1]) ?_
      refine hp_go (pc' := 44) rfl rfl rfl ?_
      refine hp_s (pc' := 45) (st' := [.int v]) rfl rfl rfl ?_
      refine hp_i2l (pc' := 46) rfl rfl ?_
      intro z4 hz4 ez4
      refine hp_cs (kd := 0) (as := [.long z4]) (rest := []) (pc' := 49) rfl rfl rfl rfl rfl rfl rfl (fun d5 => ?_)
      refine s_areLooks (xi := v.toInt) ez4 ?_ ?_
      ·
        intro h22 h23
        refine hp_id (st := [.int 1]) ?_
        refine hp_go (pc' := 52) rfl rfl rfl ?_
        refine hp_s (pc' := 53) (st' := [.ref 66]) rfl rfl rfl ?_
        refine hp_s (pc' := 55) (st' := [.int 7, .ref 66]) rfl rfl rfl ?_
        refine hp_s (pc' := 56) (st' := [.int y, .int 7, .ref 66]) rfl rfl rfl ?_
        refine hp_z (pc' := 57) (e := 7 * y) (st' := [.ref 66]) rfl rfl rfl ?_
        intro z5 hz5
        have ez5 := i_mul hz5 (show (7 : Int32).toInt = 7 from by decide) (show y.toInt = y.toInt from rfl)
        refine hp_s (pc' := 58) (st' := [.int x, .int z5, .ref 66]) rfl rfl rfl ?_
        refine hp_z (pc' := 59) (e := z5 + x) (st' := [.ref 66]) rfl rfl rfl ?_
        intro z6 hz6
        have ez6 := i_add hz6 (show z5.toInt = z5.toInt from rfl) (show x.toInt = x.toInt from rfl)
        refine hp_s (pc' := 60) (st' := [.int v, .int z6, .ref 66]) rfl rfl rfl ?_
        refine hp_cv (r := 66) (o := 12) (kd := 1) (as := [.int z6, .int v]) (rest := []) (pc' := 63) rfl rfl rfl rfl rfl rfl rfl rfl rfl (fun d6 => ?_)
        refine M_becomes (xi := z6.toInt) rfl (vi := v.toInt) rfl ?_ ?_ ?_
        ·
          intro h24
          refine hp_id (st := [.int (rI p 67 z6.toInt.toNat)]) ?_
          refine hp_go (pc' := 67) rfl rfl rfl ?_
          refine hp_ri rfl rfl ?_
          first | (exact k1 z6 _ (by first | assumption | omega | (unfold hMay; omega)) (show z6.toInt = hAt _ _ from by unfold hAt; first | (rw [if_pos (by omega)]; omega) | (rw [if_neg (by omega)]; omega)) rfl (by assumption)) | (exact k2 z6 _ _ (by first | assumption | omega | (unfold hMay; omega)) (show z6.toInt = hAt _ _ from by unfold hAt; first | (rw [if_pos (by omega)]; omega) | (rw [if_neg (by omega)]; omega)) rfl (by assumption) (by assumption) (by assumption)) | (exact k3 z6 _ _ _ _ _ (by first | assumption | omega | (unfold hMay; omega)) (show z6.toInt = hAt _ _ from by unfold hAt; first | (rw [if_pos (by omega)]; omega) | (rw [if_neg (by omega)]; omega)) rfl (by assumption) (by assumption) (by assumption) (by assumption) (by assumption) (by assumption) (by assumption))
        ·
          intro p5 h25 h26 h27
          refine hp_id (st := [.int (rI p 67 z6.toInt.toNat)]) ?_
          refine hp_go (pc' := 67) rfl rfl rfl ?_
          refine hp_ri rfl rfl ?_
          first | (exact k1 z6 _ (by first | assumption | omega | (unfold hMay; omega)) (show z6.toInt = hAt _ _ from by unfold hAt; first | (rw [if_pos (by omega)]; omega) | (rw [if_neg (by omega)]; omega)) rfl (by assumption)) | (exact k2 z6 _ _ (by first | assumption | omega | (unfold hMay; omega)) (show z6.toInt = hAt _ _ from by unfold hAt; first | (rw [if_pos (by omega)]; omega) | (rw [if_neg (by omega)]; omega)) rfl (by assumption) (by assumption) (by assumption)) | (exact k3 z6 _ _ _ _ _ (by first | assumption | omega | (unfold hMay; omega)) (show z6.toInt = hAt _ _ from by unfold hAt; first | (rw [if_pos (by omega)]; omega) | (rw [if_neg (by omega)]; omega)) rfl (by assumption) (by assumption) (by assumption) (by assumption) (by assumption) (by assumption) (by assumption))
        ·
          intro p6 y2 p7 p8 h28 h29 h30 h31 h32 h33 h34
          refine hp_id (st := [.int (rI p 67 z6.toInt.toNat)]) ?_
          refine hp_go (pc' := 67) rfl rfl rfl ?_
          refine hp_ri rfl rfl ?_
          first | (exact k1 z6 _ (by first | assumption | omega | (unfold hMay; omega)) (show z6.toInt = hAt _ _ from by unfold hAt; first | (rw [if_pos (by omega)]; omega) | (rw [if_neg (by omega)]; omega)) rfl (by assumption)) | (exact k2 z6 _ _ (by first | assumption | omega | (unfold hMay; omega)) (show z6.toInt = hAt _ _ from by unfold hAt; first | (rw [if_pos (by omega)]; omega) | (rw [if_neg (by omega)]; omega)) rfl (by assumption) (by assumption) (by assumption)) | (exact k3 z6 _ _ _ _ _ (by first | assumption | omega | (unfold hMay; omega)) (show z6.toInt = hAt _ _ from by unfold hAt; first | (rw [if_pos (by omega)]; omega) | (rw [if_neg (by omega)]; omega)) rfl (by assumption) (by assumption) (by assumption) (by assumption) (by assumption) (by assumption) (by assumption))
      ·
        intro h35
        refine hp_id (st := [.int 0]) ?_
        refine hp_go (pc' := 66) rfl rfl rfl ?_
        refine hp_s (pc' := 67) (st' := [.int (-1)]) rfl rfl rfl ?_
        refine hp_ri rfl rfl ?_
        exact k0 (by first | assumption | omega | (unfold hMay; omega))
    ·
      intro h36
      refine hp_id (st := [.int 0]) ?_
      refine hp_go (pc' := 66) rfl rfl rfl ?_
      refine hp_s (pc' := 67) (st' := [.int (-1)]) rfl rfl rfl ?_
      refine hp_ri rfl rfl ?_
      exact k0 (by first | assumption | omega | (unfold hMay; omega))
  by_cases h37 : y.toInt = 2
  ·
    refine hp_sw (v := 2) (t := 36) rfl rfl (h37) rfl ?_
    refine hp_s (pc' := 37) (st' := [.ref 66]) rfl rfl rfl ?_
    refine hp_s (pc' := 38) (st' := [.int x, .ref 66]) rfl rfl rfl ?_
    refine hp_cv (r := 66) (o := 12) (kd := 1) (as := [.int x]) (rest := []) (pc' := 41) rfl rfl rfl rfl rfl rfl rfl rfl rfl (fun d7 => ?_)
    refine s_isPerson (xi := x.toInt) rfl (by first | assumption | omega) ?_ ?_
    ·
      intro h38 h39
      refine hp_id (st := [.int 1]) ?_
      refine hp_go (pc' := 44) rfl rfl rfl ?_
      refine hp_s (pc' := 45) (st' := [.int v]) rfl rfl rfl ?_
      refine hp_i2l (pc' := 46) rfl rfl ?_
      intro z7 hz7 ez7
      refine hp_cs (kd := 0) (as := [.long z7]) (rest := []) (pc' := 49) rfl rfl rfl rfl rfl rfl rfl (fun d8 => ?_)
      refine s_areLooks (xi := v.toInt) ez7 ?_ ?_
      ·
        intro h40 h41
        refine hp_id (st := [.int 1]) ?_
        refine hp_go (pc' := 52) rfl rfl rfl ?_
        refine hp_s (pc' := 53) (st' := [.ref 66]) rfl rfl rfl ?_
        refine hp_s (pc' := 55) (st' := [.int 7, .ref 66]) rfl rfl rfl ?_
        refine hp_s (pc' := 56) (st' := [.int y, .int 7, .ref 66]) rfl rfl rfl ?_
        refine hp_z (pc' := 57) (e := 7 * y) (st' := [.ref 66]) rfl rfl rfl ?_
        intro z8 hz8
        have ez8 := i_mul hz8 (show (7 : Int32).toInt = 7 from by decide) (show y.toInt = y.toInt from rfl)
        refine hp_s (pc' := 58) (st' := [.int x, .int z8, .ref 66]) rfl rfl rfl ?_
        refine hp_z (pc' := 59) (e := z8 + x) (st' := [.ref 66]) rfl rfl rfl ?_
        intro z9 hz9
        have ez9 := i_add hz9 (show z8.toInt = z8.toInt from rfl) (show x.toInt = x.toInt from rfl)
        refine hp_s (pc' := 60) (st' := [.int v, .int z9, .ref 66]) rfl rfl rfl ?_
        refine hp_cv (r := 66) (o := 12) (kd := 1) (as := [.int z9, .int v]) (rest := []) (pc' := 63) rfl rfl rfl rfl rfl rfl rfl rfl rfl (fun d9 => ?_)
        refine M_becomes (xi := z9.toInt) rfl (vi := v.toInt) rfl ?_ ?_ ?_
        ·
          intro h42
          refine hp_id (st := [.int (rI p 67 z9.toInt.toNat)]) ?_
          refine hp_go (pc' := 67) rfl rfl rfl ?_
          refine hp_ri rfl rfl ?_
          first | (exact k1 z9 _ (by first | assumption | omega | (unfold hMay; omega)) (show z9.toInt = hAt _ _ from by unfold hAt; first | (rw [if_pos (by omega)]; omega) | (rw [if_neg (by omega)]; omega)) rfl (by assumption)) | (exact k2 z9 _ _ (by first | assumption | omega | (unfold hMay; omega)) (show z9.toInt = hAt _ _ from by unfold hAt; first | (rw [if_pos (by omega)]; omega) | (rw [if_neg (by omega)]; omega)) rfl (by assumption) (by assumption) (by assumption)) | (exact k3 z9 _ _ _ _ _ (by first | assumption | omega | (unfold hMay; omega)) (show z9.toInt = hAt _ _ from by unfold hAt; first | (rw [if_pos (by omega)]; omega) | (rw [if_neg (by omega)]; omega)) rfl (by assumption) (by assumption) (by assumption) (by assumption) (by assumption) (by assumption) (by assumption))
        ·
          intro p9 h43 h44 h45
          refine hp_id (st := [.int (rI p 67 z9.toInt.toNat)]) ?_
          refine hp_go (pc' := 67) rfl rfl rfl ?_
          refine hp_ri rfl rfl ?_
          first | (exact k1 z9 _ (by first | assumption | omega | (unfold hMay; omega)) (show z9.toInt = hAt _ _ from by unfold hAt; first | (rw [if_pos (by omega)]; omega) | (rw [if_neg (by omega)]; omega)) rfl (by assumption)) | (exact k2 z9 _ _ (by first | assumption | omega | (unfold hMay; omega)) (show z9.toInt = hAt _ _ from by unfold hAt; first | (rw [if_pos (by omega)]; omega) | (rw [if_neg (by omega)]; omega)) rfl (by assumption) (by assumption) (by assumption)) | (exact k3 z9 _ _ _ _ _ (by first | assumption | omega | (unfold hMay; omega)) (show z9.toInt = hAt _ _ from by unfold hAt; first | (rw [if_pos (by omega)]; omega) | (rw [if_neg (by omega)]; omega)) rfl (by assumption) (by assumption) (by assumption) (by assumption) (by assumption) (by assumption) (by assumption))
        ·
          intro p10 y3 p11 p12 h46 h47 h48 h49 h50 h51 h52
          refine hp_id (st := [.int (rI p 67 z9.toInt.toNat)]) ?_
          refine hp_go (pc' := 67) rfl rfl rfl ?_
          refine hp_ri rfl rfl ?_
          first | (exact k1 z9 _ (by first | assumption | omega | (unfold hMay; omega)) (show z9.toInt = hAt _ _ from by unfold hAt; first | (rw [if_pos (by omega)]; omega) | (rw [if_neg (by omega)]; omega)) rfl (by assumption)) | (exact k2 z9 _ _ (by first | assumption | omega | (unfold hMay; omega)) (show z9.toInt = hAt _ _ from by unfold hAt; first | (rw [if_pos (by omega)]; omega) | (rw [if_neg (by omega)]; omega)) rfl (by assumption) (by assumption) (by assumption)) | (exact k3 z9 _ _ _ _ _ (by first | assumption | omega | (unfold hMay; omega)) (show z9.toInt = hAt _ _ from by unfold hAt; first | (rw [if_pos (by omega)]; omega) | (rw [if_neg (by omega)]; omega)) rfl (by assumption) (by assumption) (by assumption) (by assumption) (by assumption) (by assumption) (by assumption))
      ·
        intro h53
        refine hp_id (st := [.int 0]) ?_
        refine hp_go (pc' := 66) rfl rfl rfl ?_
        refine hp_s (pc' := 67) (st' := [.int (-1)]) rfl rfl rfl ?_
        refine hp_ri rfl rfl ?_
        exact k0 (by first | assumption | omega | (unfold hMay; omega))
    ·
      intro h54
      refine hp_id (st := [.int 0]) ?_
      refine hp_go (pc' := 66) rfl rfl rfl ?_
      refine hp_s (pc' := 67) (st' := [.int (-1)]) rfl rfl rfl ?_
      refine hp_ri rfl rfl ?_
      exact k0 (by first | assumption | omega | (unfold hMay; omega))
  by_cases h55 : y.toInt = 3
  ·
    refine hp_sw (v := 3) (t := 68) rfl rfl (h55) rfl ?_
    refine hp_s (pc' := 69) (st' := [.int x]) rfl rfl rfl ?_
    refine hp_if (pc' := 72) (t := 94) (a := x.toInt) rfl rfl rfl rfl (fun (h56 : x.toInt ≠ 0) => ?_) (fun (h57 : ¬ (x.toInt ≠ 0)) => ?_)
    ·
      refine hp_s (pc' := 95) (st' := [.int (-1)]) rfl rfl rfl ?_
      refine hp_ri rfl rfl ?_
      exact k0 (by first | assumption | omega | (unfold hMay; omega))
    ·
      refine hp_s (pc' := 73) (st' := [.int v]) rfl rfl rfl ?_
      refine hp_i2l (pc' := 74) rfl rfl ?_
      intro z10 hz10 ez10
      refine hp_s (pc' := 75) (st' := [.long 0, .long z10]) rfl rfl rfl ?_
      refine hp_s (pc' := 78) (st' := [.long 6, .long 0, .long z10]) rfl rfl rfl ?_
      refine hp_cs (kd := 0) (as := [.long z10, .long 0, .long 6]) (rest := []) (pc' := 81) rfl rfl rfl rfl rfl rfl rfl (fun d10 => ?_)
      refine s_within (vi := v.toInt) ez10 (ai := 0) (by decide) (bi := 6) (by decide) ?_ ?_
      ·
        intro h58 h59
        refine hp_id (st := [.int 1]) ?_
        refine hp_go (pc' := 84) rfl rfl rfl ?_
        refine hp_s (pc' := 85) (st' := [.ref 66]) rfl rfl rfl ?_
        refine hp_s (pc' := 87) (st' := [.int 21, .ref 66]) rfl rfl rfl ?_
        refine hp_s (pc' := 88) (st' := [.int v, .int 21, .ref 66]) rfl rfl rfl ?_
        refine hp_cv (r := 66) (o := 12) (kd := 1) (as := [.int 21, .int v]) (rest := []) (pc' := 91) rfl rfl rfl rfl rfl rfl rfl rfl rfl (fun d11 => ?_)
        refine M_becomes (xi := 21) (by decide) (vi := v.toInt) rfl ?_ ?_ ?_
        ·
          intro h60
          refine hp_id (st := [.int (((rI p 67 (21 : Int).toNat)))]) ?_
          refine hp_go (pc' := 95) rfl rfl rfl ?_
          refine hp_ri rfl rfl ?_
          first | (exact k1 (21 : Int32) _ (by first | assumption | omega | (unfold hMay; omega)) (show (21 : Int32).toInt = hAt _ _ from by have hc : (21 : Int32).toInt = 21 := (by decide); unfold hAt; rw [if_neg (by omega)]; omega) rfl (by assumption)) | (exact k2 (21 : Int32) _ _ (by first | assumption | omega | (unfold hMay; omega)) (show (21 : Int32).toInt = hAt _ _ from by have hc : (21 : Int32).toInt = 21 := (by decide); unfold hAt; rw [if_neg (by omega)]; omega) rfl (by assumption) (by assumption) (by assumption)) | (exact k3 (21 : Int32) _ _ _ _ _ (by first | assumption | omega | (unfold hMay; omega)) (show (21 : Int32).toInt = hAt _ _ from by have hc : (21 : Int32).toInt = 21 := (by decide); unfold hAt; rw [if_neg (by omega)]; omega) rfl (by assumption) (by assumption) (by assumption) (by assumption) (by assumption) (by assumption) (by assumption))
        ·
          intro p13 h61 h62 h63
          refine hp_id (st := [.int (((rI p 67 (21 : Int).toNat)))]) ?_
          refine hp_go (pc' := 95) rfl rfl rfl ?_
          refine hp_ri rfl rfl ?_
          first | (exact k1 (21 : Int32) _ (by first | assumption | omega | (unfold hMay; omega)) (show (21 : Int32).toInt = hAt _ _ from by have hc : (21 : Int32).toInt = 21 := (by decide); unfold hAt; rw [if_neg (by omega)]; omega) rfl (by assumption)) | (exact k2 (21 : Int32) _ _ (by first | assumption | omega | (unfold hMay; omega)) (show (21 : Int32).toInt = hAt _ _ from by have hc : (21 : Int32).toInt = 21 := (by decide); unfold hAt; rw [if_neg (by omega)]; omega) rfl (by assumption) (by assumption) (by assumption)) | (exact k3 (21 : Int32) _ _ _ _ _ (by first | assumption | omega | (unfold hMay; omega)) (show (21 : Int32).toInt = hAt _ _ from by have hc : (21 : Int32).toInt = 21 := (by decide); unfold hAt; rw [if_neg (by omega)]; omega) rfl (by assumption) (by assumption) (by assumption) (by assumption) (by assumption) (by assumption) (by assumption))
        ·
          intro p14 y4 p15 p16 h64 h65 h66 h67 h68 h69 h70
          refine hp_id (st := [.int (((rI p 67 (21 : Int).toNat)))]) ?_
          refine hp_go (pc' := 95) rfl rfl rfl ?_
          refine hp_ri rfl rfl ?_
          first | (exact k1 (21 : Int32) _ (by first | assumption | omega | (unfold hMay; omega)) (show (21 : Int32).toInt = hAt _ _ from by have hc : (21 : Int32).toInt = 21 := (by decide); unfold hAt; rw [if_neg (by omega)]; omega) rfl (by assumption)) | (exact k2 (21 : Int32) _ _ (by first | assumption | omega | (unfold hMay; omega)) (show (21 : Int32).toInt = hAt _ _ from by have hc : (21 : Int32).toInt = 21 := (by decide); unfold hAt; rw [if_neg (by omega)]; omega) rfl (by assumption) (by assumption) (by assumption)) | (exact k3 (21 : Int32) _ _ _ _ _ (by first | assumption | omega | (unfold hMay; omega)) (show (21 : Int32).toInt = hAt _ _ from by have hc : (21 : Int32).toInt = 21 := (by decide); unfold hAt; rw [if_neg (by omega)]; omega) rfl (by assumption) (by assumption) (by assumption) (by assumption) (by assumption) (by assumption) (by assumption))
      ·
        intro h71
        refine hp_id (st := [.int 0]) ?_
        refine hp_go (pc' := 94) rfl rfl rfl ?_
        refine hp_s (pc' := 95) (st' := [.int (-1)]) rfl rfl rfl ?_
        refine hp_ri rfl rfl ?_
        exact k0 (by first | assumption | omega | (unfold hMay; omega))
  by_cases h72 : y.toInt = 4
  ·
    refine hp_sw (v := 4) (t := 96) rfl rfl (h72) rfl ?_
    refine hp_s (pc' := 97) (st' := [.int x]) rfl rfl rfl ?_
    refine hp_if (pc' := 100) (t := 122) (a := x.toInt) rfl rfl rfl rfl (fun (h73 : x.toInt ≠ 0) => ?_) (fun (h74 : ¬ (x.toInt ≠ 0)) => ?_)
    ·
      refine hp_s (pc' := 123) (st' := [.int (-1)]) rfl rfl rfl ?_
      refine hp_ri rfl rfl ?_
      exact k0 (by first | assumption | omega | (unfold hMay; omega))
    ·
      refine hp_s (pc' := 101) (st' := [.int v]) rfl rfl rfl ?_
      refine hp_i2l (pc' := 102) rfl rfl ?_
      intro z11 hz11 ez11
      refine hp_s (pc' := 103) (st' := [.long 0, .long z11]) rfl rfl rfl ?_
      refine hp_s (pc' := 106) (st' := [.long 11, .long 0, .long z11]) rfl rfl rfl ?_
      refine hp_cs (kd := 0) (as := [.long z11, .long 0, .long 11]) (rest := []) (pc' := 109) rfl rfl rfl rfl rfl rfl rfl (fun d12 => ?_)
      refine s_within (vi := v.toInt) ez11 (ai := 0) (by decide) (bi := 11) (by decide) ?_ ?_
      ·
        intro h75 h76
        refine hp_id (st := [.int 1]) ?_
        refine hp_go (pc' := 112) rfl rfl rfl ?_
        refine hp_s (pc' := 113) (st' := [.ref 66]) rfl rfl rfl ?_
        refine hp_s (pc' := 115) (st' := [.int 22, .ref 66]) rfl rfl rfl ?_
        refine hp_s (pc' := 116) (st' := [.int v, .int 22, .ref 66]) rfl rfl rfl ?_
        refine hp_cv (r := 66) (o := 12) (kd := 1) (as := [.int 22, .int v]) (rest := []) (pc' := 119) rfl rfl rfl rfl rfl rfl rfl rfl rfl (fun d13 => ?_)
        refine M_becomes (xi := 22) (by decide) (vi := v.toInt) rfl ?_ ?_ ?_
        ·
          intro h77
          refine hp_id (st := [.int (((rI p 67 (22 : Int).toNat)))]) ?_
          refine hp_go (pc' := 123) rfl rfl rfl ?_
          refine hp_ri rfl rfl ?_
          first | (exact k1 (22 : Int32) _ (by first | assumption | omega | (unfold hMay; omega)) (show (22 : Int32).toInt = hAt _ _ from by have hc : (22 : Int32).toInt = 22 := (by decide); unfold hAt; rw [if_neg (by omega)]; omega) rfl (by assumption)) | (exact k2 (22 : Int32) _ _ (by first | assumption | omega | (unfold hMay; omega)) (show (22 : Int32).toInt = hAt _ _ from by have hc : (22 : Int32).toInt = 22 := (by decide); unfold hAt; rw [if_neg (by omega)]; omega) rfl (by assumption) (by assumption) (by assumption)) | (exact k3 (22 : Int32) _ _ _ _ _ (by first | assumption | omega | (unfold hMay; omega)) (show (22 : Int32).toInt = hAt _ _ from by have hc : (22 : Int32).toInt = 22 := (by decide); unfold hAt; rw [if_neg (by omega)]; omega) rfl (by assumption) (by assumption) (by assumption) (by assumption) (by assumption) (by assumption) (by assumption))
        ·
          intro p17 h78 h79 h80
          refine hp_id (st := [.int (((rI p 67 (22 : Int).toNat)))]) ?_
          refine hp_go (pc' := 123) rfl rfl rfl ?_
          refine hp_ri rfl rfl ?_
          first | (exact k1 (22 : Int32) _ (by first | assumption | omega | (unfold hMay; omega)) (show (22 : Int32).toInt = hAt _ _ from by have hc : (22 : Int32).toInt = 22 := (by decide); unfold hAt; rw [if_neg (by omega)]; omega) rfl (by assumption)) | (exact k2 (22 : Int32) _ _ (by first | assumption | omega | (unfold hMay; omega)) (show (22 : Int32).toInt = hAt _ _ from by have hc : (22 : Int32).toInt = 22 := (by decide); unfold hAt; rw [if_neg (by omega)]; omega) rfl (by assumption) (by assumption) (by assumption)) | (exact k3 (22 : Int32) _ _ _ _ _ (by first | assumption | omega | (unfold hMay; omega)) (show (22 : Int32).toInt = hAt _ _ from by have hc : (22 : Int32).toInt = 22 := (by decide); unfold hAt; rw [if_neg (by omega)]; omega) rfl (by assumption) (by assumption) (by assumption) (by assumption) (by assumption) (by assumption) (by assumption))
        ·
          intro p18 y5 p19 p20 h81 h82 h83 h84 h85 h86 h87
          refine hp_id (st := [.int (((rI p 67 (22 : Int).toNat)))]) ?_
          refine hp_go (pc' := 123) rfl rfl rfl ?_
          refine hp_ri rfl rfl ?_
          first | (exact k1 (22 : Int32) _ (by first | assumption | omega | (unfold hMay; omega)) (show (22 : Int32).toInt = hAt _ _ from by have hc : (22 : Int32).toInt = 22 := (by decide); unfold hAt; rw [if_neg (by omega)]; omega) rfl (by assumption)) | (exact k2 (22 : Int32) _ _ (by first | assumption | omega | (unfold hMay; omega)) (show (22 : Int32).toInt = hAt _ _ from by have hc : (22 : Int32).toInt = 22 := (by decide); unfold hAt; rw [if_neg (by omega)]; omega) rfl (by assumption) (by assumption) (by assumption)) | (exact k3 (22 : Int32) _ _ _ _ _ (by first | assumption | omega | (unfold hMay; omega)) (show (22 : Int32).toInt = hAt _ _ from by have hc : (22 : Int32).toInt = 22 := (by decide); unfold hAt; rw [if_neg (by omega)]; omega) rfl (by assumption) (by assumption) (by assumption) (by assumption) (by assumption) (by assumption) (by assumption))
      ·
        intro h88
        refine hp_id (st := [.int 0]) ?_
        refine hp_go (pc' := 122) rfl rfl rfl ?_
        refine hp_s (pc' := 123) (st' := [.int (-1)]) rfl rfl rfl ?_
        refine hp_ri rfl rfl ?_
        exact k0 (by first | assumption | omega | (unfold hMay; omega))
  refine hp_td (t := 124) rfl rfl (by omega) ?_
  refine hp_s (pc' := 125) (st' := [.int (-1)]) rfl rfl rfl ?_
  refine hp_ri rfl rfl ?_
  exact k0 (by first | assumption | omega | (unfold hMay; omega))
theorem s_takeBack {ro : List (List Int32)} {n d : Nat} {p : xH} {Q : Option Value → xH → Prop}  (pre0 : ∀ j, 0 ≤ (rI p 54 j).toInt ∧ (rI p 54 j).toInt ≤ 4) (k0 : ((rI p 52 5).toInt ≤ 0) → Q (some (.int (-5))) p) (k1 : ∀ z : Int32, ∀ q : xH, ∀ p2 : xH, ∀ y : Int32, (0 < (rI p 52 5).toInt) → (z = rI p 52 5 - 1) → (q = wV p 52 5 (.int z)) → (p2 = hTl q (rI p 53 z.toInt.toNat).toInt.toNat (rI p 54 z.toInt.toNat).toInt (rI p 55 z.toInt.toNat)) → (y = rI p2 52 5) → Q (some (.int y)) p2) : hP ro n d (0, 1, 1, 1, k3) 0 (lv_args 0 [.ref 52]) [] p Q := by
  refine hp_id (ls := [(0, .ref 52)]) ?_
  refine hp_s (pc' := 1) (st' := [.ref 52]) rfl rfl rfl ?_
  refine hp_get (k := 5) (pc' := 4) (v := (rI p 52 5)) rfl rfl rfl rfl rfl rfl ?_
  refine hp_if (pc' := 7) (t := 10) (a := (rI p 52 5).toInt) rfl rfl rfl rfl (fun (h1 : 0 < (rI p 52 5).toInt) => ?_) (fun (h2 : ¬ (0 < (rI p 52 5).toInt)) => ?_)
  ·
    refine hp_s (pc' := 11) (st' := [.ref 52]) rfl rfl rfl ?_
    refine hp_s (pc' := 12) (st' := [.ref 52, .ref 52]) rfl rfl rfl ?_
    refine hp_get (k := 5) (pc' := 15) (v := (rI p 52 5)) rfl rfl rfl rfl rfl rfl ?_
    refine hp_s (pc' := 16) (st' := [.int 1, .int (rI p 52 5), .ref 52]) rfl rfl rfl ?_
    refine hp_z (pc' := 17) (e := (rI p 52 5) - 1) (st' := [.ref 52]) rfl rfl rfl ?_
    intro z1 hz1
    have ez1 := i_sub hz1 (show (rI p 52 5).toInt = (rI p 52 5).toInt from rfl) (show (1 : Int32).toInt = 1 from by decide)
    refine hp_put (k := 5) (pc' := 20) rfl rfl rfl rfl rfl ?_
    intro p1 wp1 ep1
    refine hp_s (pc' := 21) (st' := [.ref 52]) rfl rfl rfl ?_
    refine hp_getr (k := 0) (w := .ref 13) (pc' := 24) rfl rfl rfl rfl rfl ?_
    refine hp_s (pc' := 25) (st' := [.ref 52, .ref 13]) rfl rfl rfl ?_
    refine hp_getr (k := 1) (w := .ref 53) (pc' := 28) rfl rfl rfl rfl rfl ?_
    refine hp_s (pc' := 29) (st' := [.ref 52, .ref 53, .ref 13]) rfl rfl rfl ?_
    refine hp_get (k := 5) (pc' := 32) (v := z1) rfl rfl rfl rfl rfl (by rw [ep1, rI_eq wp1 (by decide)]) ?_
    refine hp_ld (t := 100) (v := (rI p 53 z1.toInt.toNat)) rfl (.inl rfl) rfl rfl (by rw [ep1, rI_o (by decide)]) ?_
    intro (g1a : 0 ≤ z1.toInt) (g1b : z1.toInt < 40)
    refine hp_s (pc' := 34) (st' := [.ref 52, .int (rI p 53 z1.toInt.toNat), .ref 13]) rfl rfl rfl ?_
    refine hp_getr (k := 2) (w := .ref 54) (pc' := 37) rfl rfl rfl rfl rfl ?_
    refine hp_s (pc' := 38) (st' := [.ref 52, .ref 54, .int (rI p 53 z1.toInt.toNat), .ref 13]) rfl rfl rfl ?_
    refine hp_get (k := 5) (pc' := 41) (v := z1) rfl rfl rfl rfl rfl (by rw [ep1, rI_eq wp1 (by decide)]) ?_
    refine hp_ld (t := 100) (v := (rI p 54 z1.toInt.toNat)) rfl (.inl rfl) rfl rfl (by rw [ep1, rI_o (by decide)]) ?_
    intro (g2a : 0 ≤ z1.toInt) (g2b : z1.toInt < 40)
    refine hp_s (pc' := 43) (st' := [.ref 52, .int (rI p 54 z1.toInt.toNat), .int (rI p 53 z1.toInt.toNat), .ref 13]) rfl rfl rfl ?_
    refine hp_getr (k := 3) (w := .ref 55) (pc' := 46) rfl rfl rfl rfl rfl ?_
    refine hp_s (pc' := 47) (st' := [.ref 52, .ref 55, .int (rI p 54 z1.toInt.toNat), .int (rI p 53 z1.toInt.toNat), .ref 13]) rfl rfl rfl ?_
    refine hp_get (k := 5) (pc' := 50) (v := z1) rfl rfl rfl rfl rfl (by rw [ep1, rI_eq wp1 (by decide)]) ?_
    refine hp_ld (t := 100) (v := (rI p 55 z1.toInt.toNat)) rfl (.inl rfl) rfl rfl (by rw [ep1, rI_o (by decide)]) ?_
    intro (g3a : 0 ≤ z1.toInt) (g3b : z1.toInt < 40)
    refine hp_cv (r := 13) (o := 1) (kd := 1) (as := [.int (rI p 53 z1.toInt.toNat), .int (rI p 54 z1.toInt.toNat), .int (rI p 55 z1.toInt.toNat)]) (rest := []) (pc' := 54) rfl rfl rfl rfl rfl rfl rfl rfl rfl (fun d1 => ?_)
    refine s_tell (xi := (rI p 53 z1.toInt.toNat).toInt) rfl (yi := (rI p 54 z1.toInt.toNat).toInt) rfl (vi := (rI p 55 z1.toInt.toNat).toInt) rfl (by first | assumption | omega | exact (pre0 _).1 | exact (pre0 _).2) (by first | assumption | omega | exact (pre0 _).1 | exact (pre0 _).2) ?_
    intro p2 h3
    refine hp_id (st := []) ?_
    refine hp_s (pc' := 55) (st' := [.ref 52]) rfl rfl rfl ?_
    refine hp_get (k := 5) (pc' := 58) (v := (rI p2 52 5)) rfl rfl rfl rfl rfl rfl ?_
    refine hp_ri rfl rfl ?_
    first | (exact k0 (by first | assumption | omega | (subst_vars; assumption) | (subst_vars; rfl))) | (exact k1 _ _ _ _ (by first | assumption | omega | (subst_vars; assumption) | (subst_vars; rfl)) (by first | assumption | omega | (subst_vars; assumption) | (subst_vars; rfl)) (by first | assumption | omega | (subst_vars; assumption) | (subst_vars; rfl)) (by first | assumption | omega | (subst_vars; assumption) | (subst_vars; rfl)) (by first | assumption | omega | (subst_vars; assumption) | (subst_vars; rfl))) | (exfalso; omega)
  ·
    refine hp_s (pc' := 9) (st' := [.int (-5)]) rfl rfl rfl ?_
    refine hp_ri rfl rfl ?_
    first | (exact k0 (by first | assumption | omega | (subst_vars; assumption) | (subst_vars; rfl))) | (exact k1 _ _ _ _ (by first | assumption | omega | (subst_vars; assumption) | (subst_vars; rfl)) (by first | assumption | omega | (subst_vars; assumption) | (subst_vars; rfl)) (by first | assumption | omega | (subst_vars; assumption) | (subst_vars; rfl)) (by first | assumption | omega | (subst_vars; assumption) | (subst_vars; rfl)) (by first | assumption | omega | (subst_vars; assumption) | (subst_vars; rfl))) | (exfalso; omega)
theorem s_makeAgain {ro : List (List Int32)} {n d : Nat} {p : xH} {Q : Option Value → xH → Prop}  (pre0 : ∀ j, 0 ≤ (rI p 54 j).toInt ∧ (rI p 54 j).toInt ≤ 4) (k0 : ((rI p 52 6).toInt ≤ (rI p 52 5).toInt) → Q (some (.int (-5))) p) (k1 : ∀ q : xH, ∀ p2 : xH, ∀ y : Int32, ((rI p 52 5).toInt < (rI p 52 6).toInt) → (q = hTl p (rI p 53 (rI p 52 5).toInt.toNat).toInt.toNat (rI p 54 (rI p 52 5).toInt.toNat).toInt (rI p 56 (rI p 52 5).toInt.toNat)) → (p2 = wV q 52 5 (.int (rI q 52 5 + 1))) → (y = rI q 52 6 - (rI q 52 5 + 1)) → Q (some (.int y)) p2) : hP ro n d (0, 1, 1, 1, k4) 0 (lv_args 0 [.ref 52]) [] p Q := by
  refine hp_id (ls := [(0, .ref 52)]) ?_
  refine hp_s (pc' := 1) (st' := [.ref 52]) rfl rfl rfl ?_
  refine hp_get (k := 5) (pc' := 4) (v := (rI p 52 5)) rfl rfl rfl rfl rfl rfl ?_
  refine hp_s (pc' := 5) (st' := [.ref 52, .int (rI p 52 5)]) rfl rfl rfl ?_
  refine hp_get (k := 6) (pc' := 8) (v := (rI p 52 6)) rfl rfl rfl rfl rfl rfl ?_
  refine hp_ic (pc' := 11) (t := 14) (a := (rI p 52 5).toInt) (b := (rI p 52 6).toInt) rfl rfl rfl rfl rfl (fun (h1 : (rI p 52 5).toInt < (rI p 52 6).toInt) => ?_) (fun (h2 : ¬ ((rI p 52 5).toInt < (rI p 52 6).toInt)) => ?_)
  ·
    refine hp_s (pc' := 15) (st' := [.ref 52]) rfl rfl rfl ?_
    refine hp_getr (k := 0) (w := .ref 13) (pc' := 18) rfl rfl rfl rfl rfl ?_
    refine hp_s (pc' := 19) (st' := [.ref 52, .ref 13]) rfl rfl rfl ?_
    refine hp_getr (k := 1) (w := .ref 53) (pc' := 22) rfl rfl rfl rfl rfl ?_
    refine hp_s (pc' := 23) (st' := [.ref 52, .ref 53, .ref 13]) rfl rfl rfl ?_
    refine hp_get (k := 5) (pc' := 26) (v := (rI p 52 5)) rfl rfl rfl rfl rfl rfl ?_
    refine hp_ld (t := 100) (v := (rI p 53 (rI p 52 5).toInt.toNat)) rfl (.inl rfl) rfl rfl rfl ?_
    intro (g1a : 0 ≤ (rI p 52 5).toInt) (g1b : (rI p 52 5).toInt < 40)
    refine hp_s (pc' := 28) (st' := [.ref 52, .int ((rI p 53 (rI p 52 5).toInt.toNat)), .ref 13]) rfl rfl rfl ?_
    refine hp_getr (k := 2) (w := .ref 54) (pc' := 31) rfl rfl rfl rfl rfl ?_
    refine hp_s (pc' := 32) (st' := [.ref 52, .ref 54, .int ((rI p 53 (rI p 52 5).toInt.toNat)), .ref 13]) rfl rfl rfl ?_
    refine hp_get (k := 5) (pc' := 35) (v := (rI p 52 5)) rfl rfl rfl rfl rfl rfl ?_
    refine hp_ld (t := 100) (v := (rI p 54 (rI p 52 5).toInt.toNat)) rfl (.inl rfl) rfl rfl rfl ?_
    intro (g2a : 0 ≤ (rI p 52 5).toInt) (g2b : (rI p 52 5).toInt < 40)
    refine hp_s (pc' := 37) (st' := [.ref 52, .int ((rI p 54 (rI p 52 5).toInt.toNat)), .int ((rI p 53 (rI p 52 5).toInt.toNat)), .ref 13]) rfl rfl rfl ?_
    refine hp_getr (k := 4) (w := .ref 56) (pc' := 40) rfl rfl rfl rfl rfl ?_
    refine hp_s (pc' := 41) (st' := [.ref 52, .ref 56, .int ((rI p 54 (rI p 52 5).toInt.toNat)), .int ((rI p 53 (rI p 52 5).toInt.toNat)), .ref 13]) rfl rfl rfl ?_
    refine hp_get (k := 5) (pc' := 44) (v := (rI p 52 5)) rfl rfl rfl rfl rfl rfl ?_
    refine hp_ld (t := 100) (v := (rI p 56 (rI p 52 5).toInt.toNat)) rfl (.inl rfl) rfl rfl rfl ?_
    intro (g3a : 0 ≤ (rI p 52 5).toInt) (g3b : (rI p 52 5).toInt < 40)
    refine hp_cv (r := 13) (o := 1) (kd := 1) (as := [.int ((rI p 53 (rI p 52 5).toInt.toNat)), .int ((rI p 54 (rI p 52 5).toInt.toNat)), .int ((rI p 56 (rI p 52 5).toInt.toNat))]) (rest := []) (pc' := 48) rfl rfl rfl rfl rfl rfl rfl rfl rfl (fun d1 => ?_)
    refine s_tell (xi := ((rI p 53 (rI p 52 5).toInt.toNat)).toInt) rfl (yi := ((rI p 54 (rI p 52 5).toInt.toNat)).toInt) rfl (vi := ((rI p 56 (rI p 52 5).toInt.toNat)).toInt) rfl (by first | assumption | omega | exact (pre0 _).1 | exact (pre0 _).2) (by first | assumption | omega | exact (pre0 _).1 | exact (pre0 _).2) ?_
    intro p1 h3
    refine hp_id (st := []) ?_
    refine hp_s (pc' := 49) (st' := [.ref 52]) rfl rfl rfl ?_
    refine hp_s (pc' := 50) (st' := [.ref 52, .ref 52]) rfl rfl rfl ?_
    refine hp_get (k := 5) (pc' := 53) (v := (rI p1 52 5)) rfl rfl rfl rfl rfl rfl ?_
    refine hp_s (pc' := 54) (st' := [.int 1, .int (rI p1 52 5), .ref 52]) rfl rfl rfl ?_
    refine hp_z (pc' := 55) (e := (rI p1 52 5) + 1) (st' := [.ref 52]) rfl rfl rfl ?_
    intro z1 hz1
    have ez1 := i_add hz1 (show (rI p1 52 5).toInt = (rI p1 52 5).toInt from rfl) (show (1 : Int32).toInt = 1 from by decide)
    refine hp_put (k := 5) (pc' := 58) rfl rfl rfl rfl rfl ?_
    intro p2 wp2 ep2
    refine hp_s (pc' := 59) (st' := [.ref 52]) rfl rfl rfl ?_
    refine hp_get (k := 6) (pc' := 62) (v := (rI p1 52 6)) rfl rfl rfl rfl rfl (by rw [ep2, rI_ne (fun _ => by decide)]) ?_
    refine hp_s (pc' := 63) (st' := [.ref 52, .int (rI p1 52 6)]) rfl rfl rfl ?_
    refine hp_get (k := 5) (pc' := 66) (v := z1) rfl rfl rfl rfl rfl (by rw [ep2, rI_eq wp2 (by decide)]) ?_
    refine hp_z (pc' := 67) (e := (rI p1 52 6) - z1) (st' := []) rfl rfl rfl ?_
    intro z2 hz2
    have ez2 := i_sub hz2 (show (rI p1 52 6).toInt = (rI p1 52 6).toInt from rfl) (show z1.toInt = z1.toInt from rfl)
    refine hp_ri rfl rfl ?_
    first | (exact k0 (by first | assumption | omega | (subst_vars; assumption) | (subst_vars; rfl))) | (exact k1 _ _ _ (by first | assumption | omega | (subst_vars; assumption) | (subst_vars; rfl)) (by first | assumption | omega | (subst_vars; assumption) | (subst_vars; rfl)) (by first | assumption | omega | (subst_vars; assumption) | (subst_vars; rfl)) (by first | assumption | omega | (subst_vars; assumption) | (subst_vars; rfl))) | (exfalso; omega)
  ·
    refine hp_s (pc' := 13) (st' := [.int (-5)]) rfl rfl rfl ?_
    refine hp_ri rfl rfl ?_
    first | (exact k0 (by first | assumption | omega | (subst_vars; assumption) | (subst_vars; rfl))) | (exact k1 _ _ _ (by first | assumption | omega | (subst_vars; assumption) | (subst_vars; rfl)) (by first | assumption | omega | (subst_vars; assumption) | (subst_vars; rfl)) (by first | assumption | omega | (subst_vars; assumption) | (subst_vars; rfl)) (by first | assumption | omega | (subst_vars; assumption) | (subst_vars; rfl))) | (exfalso; omega)
theorem X_undo {ro : List (List Int32)} {n d : Nat} {p : xH} {Q : Option Value → xH → Prop}  (pre0 : ∀ j, 0 ≤ (rI p 54 j).toInt ∧ (rI p 54 j).toInt ≤ 4) (k0 : ((rI p 52 5).toInt ≤ 0) → Q (some (.int (-5))) p) (k1 : ∀ z : Int32, ∀ q : xH, ∀ p2 : xH, ∀ y : Int32, (0 < (rI p 52 5).toInt) → (z = rI p 52 5 - 1) → (q = wV p 52 5 (.int z)) → (p2 = hTl q (rI p 53 z.toInt.toNat).toInt.toNat (rI p 54 z.toInt.toNat).toInt (rI p 55 z.toInt.toNat)) → (y = rI p2 52 5) → Q (some (.int y)) p2) : hP ro n d (11, 1, 1, 1, k160) 0 (lv_args 0 [.ref 0]) [] p Q := by
  refine hp_id (ls := [(0, .ref 0)]) ?_
  refine hp_s (pc' := 1) (st' := [.ref 0]) rfl rfl rfl ?_
  refine hp_getr (k := 11) (w := .ref 52) (pc' := 4) rfl rfl rfl rfl rfl ?_
  refine hp_cv (r := 52) (o := 0) (kd := 1) (as := []) (rest := []) (pc' := 7) rfl rfl rfl rfl rfl rfl rfl rfl rfl (fun d1 => ?_)
  refine s_takeBack (by first | assumption | omega) ?_ ?_
  ·
    intro h1
    refine hp_id (st := [.int (-5)]) ?_
    refine hp_ri rfl rfl ?_
    first | (exact k0 (by first | assumption | omega | (subst_vars; assumption) | (subst_vars; rfl))) | (exact k1 _ _ _ _ (by first | assumption | omega | (subst_vars; assumption) | (subst_vars; rfl)) (by first | assumption | omega | (subst_vars; assumption) | (subst_vars; rfl)) (by first | assumption | omega | (subst_vars; assumption) | (subst_vars; rfl)) (by first | assumption | omega | (subst_vars; assumption) | (subst_vars; rfl)) (by first | assumption | omega | (subst_vars; assumption) | (subst_vars; rfl))) | (exfalso; omega)
  ·
    intro y1 p1 p2 y2 h2 h3 h4 h5 h6
    refine hp_id (st := [.int y2]) ?_
    refine hp_ri rfl rfl ?_
    first | (exact k0 (by first | assumption | omega | (subst_vars; assumption) | (subst_vars; rfl))) | (exact k1 _ _ _ _ (by first | assumption | omega | (subst_vars; assumption) | (subst_vars; rfl)) (by first | assumption | omega | (subst_vars; assumption) | (subst_vars; rfl)) (by first | assumption | omega | (subst_vars; assumption) | (subst_vars; rfl)) (by first | assumption | omega | (subst_vars; assumption) | (subst_vars; rfl)) (by first | assumption | omega | (subst_vars; assumption) | (subst_vars; rfl))) | (exfalso; omega)
theorem X_redo {ro : List (List Int32)} {n d : Nat} {p : xH} {Q : Option Value → xH → Prop}  (pre0 : ∀ j, 0 ≤ (rI p 54 j).toInt ∧ (rI p 54 j).toInt ≤ 4) (k0 : ((rI p 52 6).toInt ≤ (rI p 52 5).toInt) → Q (some (.int (-5))) p) (k1 : ∀ q : xH, ∀ p2 : xH, ∀ y : Int32, ((rI p 52 5).toInt < (rI p 52 6).toInt) → (q = hTl p (rI p 53 (rI p 52 5).toInt.toNat).toInt.toNat (rI p 54 (rI p 52 5).toInt.toNat).toInt (rI p 56 (rI p 52 5).toInt.toNat)) → (p2 = wV q 52 5 (.int (rI q 52 5 + 1))) → (y = rI q 52 6 - (rI q 52 5 + 1)) → Q (some (.int y)) p2) : hP ro n d (11, 1, 1, 1, k161) 0 (lv_args 0 [.ref 0]) [] p Q := by
  refine hp_id (ls := [(0, .ref 0)]) ?_
  refine hp_s (pc' := 1) (st' := [.ref 0]) rfl rfl rfl ?_
  refine hp_getr (k := 11) (w := .ref 52) (pc' := 4) rfl rfl rfl rfl rfl ?_
  refine hp_cv (r := 52) (o := 0) (kd := 1) (as := []) (rest := []) (pc' := 7) rfl rfl rfl rfl rfl rfl rfl rfl rfl (fun d1 => ?_)
  refine s_makeAgain (by first | assumption | omega) ?_ ?_
  ·
    intro h1
    refine hp_id (st := [.int (-5)]) ?_
    refine hp_ri rfl rfl ?_
    first | (exact k0 (by first | assumption | omega | (subst_vars; assumption) | (subst_vars; rfl))) | (exact k1 _ _ _ (by first | assumption | omega | (subst_vars; assumption) | (subst_vars; rfl)) (by first | assumption | omega | (subst_vars; assumption) | (subst_vars; rfl)) (by first | assumption | omega | (subst_vars; assumption) | (subst_vars; rfl)) (by first | assumption | omega | (subst_vars; assumption) | (subst_vars; rfl))) | (exfalso; omega)
  ·
    intro p1 p2 y1 h2 h3 h4 h5
    refine hp_id (st := [.int y1]) ?_
    refine hp_ri rfl rfl ?_
    first | (exact k0 (by first | assumption | omega | (subst_vars; assumption) | (subst_vars; rfl))) | (exact k1 _ _ _ (by first | assumption | omega | (subst_vars; assumption) | (subst_vars; rfl)) (by first | assumption | omega | (subst_vars; assumption) | (subst_vars; rfl)) (by first | assumption | omega | (subst_vars; assumption) | (subst_vars; rfl)) (by first | assumption | omega | (subst_vars; assumption) | (subst_vars; rfl))) | (exfalso; omega)
theorem M_undo {ro : List (List Int32)} {n d : Nat} {p : xH} {Q : Option Value → xH → Prop}   (k0 : ((rI p 66 5).toInt = 0) → Q (some (.int (-5))) p) (k1 : ∀ z : Int32, ∀ q : xH, ∀ p2 : xH, ((rI p 66 5).toInt ≠ 0) → (z = rI p 66 5 - 1) → (q = wV p 66 5 (.int z)) → (p2 = wV q 67 (rI p 68 z.toInt.toNat).toInt.toNat (.int (rI p 69 z.toInt.toNat))) → Q (some (.int z)) p2) : hP ro n d (12, 1, 1, 1, k179) 0 (lv_args 0 [.ref 66]) [] p Q := by
  refine hp_id (ls := [(0, .ref 66)]) ?_
  refine hp_s (pc' := 1) (st' := [.ref 66]) rfl rfl rfl ?_
  refine hp_get (k := 5) (pc' := 4) (v := (rI p 66 5)) rfl rfl rfl rfl rfl rfl ?_
  refine hp_if (pc' := 7) (t := 10) (a := (rI p 66 5).toInt) rfl rfl rfl rfl (fun (h1 : (rI p 66 5).toInt ≠ 0) => ?_) (fun (h2 : ¬ ((rI p 66 5).toInt ≠ 0)) => ?_)
  ·
    refine hp_s (pc' := 11) (st' := [.ref 66]) rfl rfl rfl ?_
    refine hp_s (pc' := 12) (st' := [.ref 66, .ref 66]) rfl rfl rfl ?_
    refine hp_get (k := 5) (pc' := 15) (v := (rI p 66 5)) rfl rfl rfl rfl rfl rfl ?_
    refine hp_s (pc' := 16) (st' := [.int 1, .int (rI p 66 5), .ref 66]) rfl rfl rfl ?_
    refine hp_z (pc' := 17) (e := (rI p 66 5) - 1) (st' := [.ref 66]) rfl rfl rfl ?_
    intro z1 hz1
    have ez1 := i_sub hz1 (show (rI p 66 5).toInt = (rI p 66 5).toInt from rfl) (show (1 : Int32).toInt = 1 from by decide)
    refine hp_put (k := 5) (pc' := 20) rfl rfl rfl rfl rfl ?_
    intro p1 wp1 ep1
    refine hp_s (pc' := 21) (st' := [.ref 66]) rfl rfl rfl ?_
    refine hp_getr (k := 0) (w := .ref 67) (pc' := 24) rfl rfl rfl rfl rfl ?_
    refine hp_s (pc' := 25) (st' := [.ref 66, .ref 67]) rfl rfl rfl ?_
    refine hp_getr (k := 1) (w := .ref 68) (pc' := 28) rfl rfl rfl rfl rfl ?_
    refine hp_s (pc' := 29) (st' := [.ref 66, .ref 68, .ref 67]) rfl rfl rfl ?_
    refine hp_get (k := 5) (pc' := 32) (v := z1) rfl rfl rfl rfl rfl (by rw [ep1, rI_eq wp1 (by decide)]) ?_
    refine hp_ld (t := 100) (v := (rI p 68 z1.toInt.toNat)) rfl (.inl rfl) rfl rfl (by rw [ep1, rI_o (by decide)]) ?_
    intro (g1a : 0 ≤ z1.toInt) (g1b : z1.toInt < 40)
    refine hp_s (pc' := 34) (st' := [.ref 66, .int (rI p 68 z1.toInt.toNat), .ref 67]) rfl rfl rfl ?_
    refine hp_getr (k := 2) (w := .ref 69) (pc' := 37) rfl rfl rfl rfl rfl ?_
    refine hp_s (pc' := 38) (st' := [.ref 66, .ref 69, .int (rI p 68 z1.toInt.toNat), .ref 67]) rfl rfl rfl ?_
    refine hp_get (k := 5) (pc' := 41) (v := z1) rfl rfl rfl rfl rfl (by rw [ep1, rI_eq wp1 (by decide)]) ?_
    refine hp_ld (t := 100) (v := (rI p 69 z1.toInt.toNat)) rfl (.inl rfl) rfl rfl (by rw [ep1, rI_o (by decide)]) ?_
    intro (g2a : 0 ≤ z1.toInt) (g2b : z1.toInt < 40)
    refine hp_st (t := 100) rfl (.inl rfl) rfl rfl ?_
    intro p2 wp2 (p2a : 0 ≤ (rI p 68 z1.toInt.toNat).toInt) (p2b : (rI p 68 z1.toInt.toNat).toInt < 23) ep2
    refine hp_s (pc' := 44) (st' := [.ref 66]) rfl rfl rfl ?_
    refine hp_get (k := 5) (pc' := 47) (v := z1) rfl rfl rfl rfl rfl (by rw [ep2, rI_o (by decide), ep1, rI_eq wp1 (by decide)]) ?_
    refine hp_ri rfl rfl ?_
    first | (exact k0 (by first | assumption | omega | (subst_vars; assumption) | (subst_vars; rfl))) | (exact k1 _ _ _ (by first | assumption | omega | (subst_vars; assumption) | (subst_vars; rfl)) (by first | assumption | omega | (subst_vars; assumption) | (subst_vars; rfl)) (by first | assumption | omega | (subst_vars; assumption) | (subst_vars; rfl)) (by first | assumption | omega | (subst_vars; assumption) | (subst_vars; rfl))) | (exfalso; omega)
  ·
    refine hp_s (pc' := 9) (st' := [.int (-5)]) rfl rfl rfl ?_
    refine hp_ri rfl rfl ?_
    first | (exact k0 (by first | assumption | omega | (subst_vars; assumption) | (subst_vars; rfl))) | (exact k1 _ _ _ (by first | assumption | omega | (subst_vars; assumption) | (subst_vars; rfl)) (by first | assumption | omega | (subst_vars; assumption) | (subst_vars; rfl)) (by first | assumption | omega | (subst_vars; assumption) | (subst_vars; rfl)) (by first | assumption | omega | (subst_vars; assumption) | (subst_vars; rfl))) | (exfalso; omega)
theorem M_redo {ro : List (List Int32)} {n d : Nat} {p : xH} {Q : Option Value → xH → Prop}   (k0 : ((rI p 66 5).toInt = (rI p 66 4).toInt) → Q (some (.int (-5))) p) (k1 : ∀ q : xH, ∀ p2 : xH, ∀ y : Int32, ((rI p 66 5).toInt ≠ (rI p 66 4).toInt) → (q = wV p 67 (rI p 68 (rI p 66 5).toInt.toNat).toInt.toNat (.int (rI p 70 (rI p 66 5).toInt.toNat))) → (p2 = wV q 66 5 (.int (rI p 66 5 + 1))) → (y = rI p 66 4 - (rI p 66 5 + 1)) → Q (some (.int y)) p2) : hP ro n d (12, 1, 1, 1, k180) 0 (lv_args 0 [.ref 66]) [] p Q := by
  refine hp_id (ls := [(0, .ref 66)]) ?_
  refine hp_s (pc' := 1) (st' := [.ref 66]) rfl rfl rfl ?_
  refine hp_get (k := 5) (pc' := 4) (v := (rI p 66 5)) rfl rfl rfl rfl rfl rfl ?_
  refine hp_s (pc' := 5) (st' := [.ref 66, .int (rI p 66 5)]) rfl rfl rfl ?_
  refine hp_get (k := 4) (pc' := 8) (v := (rI p 66 4)) rfl rfl rfl rfl rfl rfl ?_
  refine hp_ic (pc' := 11) (t := 14) (a := (rI p 66 5).toInt) (b := (rI p 66 4).toInt) rfl rfl rfl rfl rfl (fun (h1 : (rI p 66 5).toInt ≠ (rI p 66 4).toInt) => ?_) (fun (h2 : ¬ ((rI p 66 5).toInt ≠ (rI p 66 4).toInt)) => ?_)
  ·
    refine hp_s (pc' := 15) (st' := [.ref 66]) rfl rfl rfl ?_
    refine hp_getr (k := 0) (w := .ref 67) (pc' := 18) rfl rfl rfl rfl rfl ?_
    refine hp_s (pc' := 19) (st' := [.ref 66, .ref 67]) rfl rfl rfl ?_
    refine hp_getr (k := 1) (w := .ref 68) (pc' := 22) rfl rfl rfl rfl rfl ?_
    refine hp_s (pc' := 23) (st' := [.ref 66, .ref 68, .ref 67]) rfl rfl rfl ?_
    refine hp_get (k := 5) (pc' := 26) (v := (rI p 66 5)) rfl rfl rfl rfl rfl rfl ?_
    refine hp_ld (t := 100) (v := (rI p 68 (rI p 66 5).toInt.toNat)) rfl (.inl rfl) rfl rfl rfl ?_
    intro (g1a : 0 ≤ (rI p 66 5).toInt) (g1b : (rI p 66 5).toInt < 40)
    refine hp_s (pc' := 28) (st' := [.ref 66, .int ((rI p 68 (rI p 66 5).toInt.toNat)), .ref 67]) rfl rfl rfl ?_
    refine hp_getr (k := 3) (w := .ref 70) (pc' := 31) rfl rfl rfl rfl rfl ?_
    refine hp_s (pc' := 32) (st' := [.ref 66, .ref 70, .int ((rI p 68 (rI p 66 5).toInt.toNat)), .ref 67]) rfl rfl rfl ?_
    refine hp_get (k := 5) (pc' := 35) (v := (rI p 66 5)) rfl rfl rfl rfl rfl rfl ?_
    refine hp_ld (t := 100) (v := (rI p 70 (rI p 66 5).toInt.toNat)) rfl (.inl rfl) rfl rfl rfl ?_
    intro (g2a : 0 ≤ (rI p 66 5).toInt) (g2b : (rI p 66 5).toInt < 40)
    refine hp_st (t := 100) rfl (.inl rfl) rfl rfl ?_
    intro p1 wp1 (p1a : 0 ≤ ((rI p 68 (rI p 66 5).toInt.toNat)).toInt) (p1b : ((rI p 68 (rI p 66 5).toInt.toNat)).toInt < 23) ep1
    refine hp_s (pc' := 38) (st' := [.ref 66]) rfl rfl rfl ?_
    refine hp_s (pc' := 39) (st' := [.ref 66, .ref 66]) rfl rfl rfl ?_
    refine hp_get (k := 5) (pc' := 42) (v := (rI p 66 5)) rfl rfl rfl rfl rfl (by rw [ep1, rI_o (by decide)]) ?_
    refine hp_s (pc' := 43) (st' := [.int 1, .int (rI p 66 5), .ref 66]) rfl rfl rfl ?_
    refine hp_z (pc' := 44) (e := (rI p 66 5) + 1) (st' := [.ref 66]) rfl rfl rfl ?_
    intro z1 hz1
    have ez1 := i_add hz1 (show (rI p 66 5).toInt = (rI p 66 5).toInt from rfl) (show (1 : Int32).toInt = 1 from by decide)
    refine hp_put (k := 5) (pc' := 47) rfl rfl rfl rfl rfl ?_
    intro p2 wp2 ep2
    refine hp_s (pc' := 48) (st' := [.ref 66]) rfl rfl rfl ?_
    refine hp_get (k := 4) (pc' := 51) (v := (rI p 66 4)) rfl rfl rfl rfl rfl (by rw [ep2, rI_ne (fun _ => by decide), ep1, rI_o (by decide)]) ?_
    refine hp_s (pc' := 52) (st' := [.ref 66, .int (rI p 66 4)]) rfl rfl rfl ?_
    refine hp_get (k := 5) (pc' := 55) (v := z1) rfl rfl rfl rfl rfl (by rw [ep2, rI_eq wp2 (by decide)]) ?_
    refine hp_z (pc' := 56) (e := (rI p 66 4) - z1) (st' := []) rfl rfl rfl ?_
    intro z2 hz2
    have ez2 := i_sub hz2 (show (rI p 66 4).toInt = (rI p 66 4).toInt from rfl) (show z1.toInt = z1.toInt from rfl)
    refine hp_ri rfl rfl ?_
    first | (exact k0 (by first | assumption | omega | (subst_vars; assumption) | (subst_vars; rfl))) | (exact k1 _ _ _ (by first | assumption | omega | (subst_vars; assumption) | (subst_vars; rfl)) (by first | assumption | omega | (subst_vars; assumption) | (subst_vars; rfl)) (by first | assumption | omega | (subst_vars; assumption) | (subst_vars; rfl)) (by first | assumption | omega | (subst_vars; assumption) | (subst_vars; rfl))) | (exfalso; omega)
  ·
    refine hp_s (pc' := 13) (st' := [.int (-5)]) rfl rfl rfl ?_
    refine hp_ri rfl rfl ?_
    first | (exact k0 (by first | assumption | omega | (subst_vars; assumption) | (subst_vars; rfl))) | (exact k1 _ _ _ (by first | assumption | omega | (subst_vars; assumption) | (subst_vars; rfl)) (by first | assumption | omega | (subst_vars; assumption) | (subst_vars; rfl)) (by first | assumption | omega | (subst_vars; assumption) | (subst_vars; rfl)) (by first | assumption | omega | (subst_vars; assumption) | (subst_vars; rfl))) | (exfalso; omega)
