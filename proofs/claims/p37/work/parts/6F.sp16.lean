/-! contracts of methods, walked -/
theorem hKi_w {p : xH} {r k : Nat} {v : Value} (h : 58 ≠ r) (g : hKi p) : hKi (wV p r k v) := fun j => by rw [rI_o h]; exact g j
def hM1 (p : xH) (v : Int32) : xH := if (rI p 66 47).toInt < 24 then wV (wV p 96 (rI p 66 47).toInt.toNat (.int v)) 66 47 (.int (rI p 66 47 + 1)) else wV p 66 47 (.int (rI p 66 47 + 1))
def hMg : xH → List Int32 → xH
  | p, [] => p
  | p, v :: l => hMg (hM1 p v) l
theorem hMg_app : ∀ {l m : List Int32} {p : xH}, hMg (hMg p l) m = hMg p (l ++ m)
  | [], _, _ => rfl
  | _ :: l, _, _ => hMg_app (l := l)
theorem hM1_o {p : xH} {v : Int32} {r k : Nat} (h : r = 66 → k ≠ 47) (h2 : r ≠ 96) : rV (hM1 p v) r k = rV p r k := by
  unfold hM1
  by_cases z : (rI p 66 47).toInt < 24
  · rw [if_pos z, rV_ne h, rV_ne (fun e => absurd e h2)]
  · rw [if_neg z, rV_ne h]
theorem hMg_o : ∀ {l : List Int32} {p : xH} {r k : Nat} (_ : r = 66 → k ≠ 47) (_ : r ≠ 96), rV (hMg p l) r k = rV p r k
  | [], _, _, _, _, _ => rfl
  | v :: l, p, _, _, h, h2 => (hMg_o (l := l) (p := hM1 p v) h h2).trans (hM1_o h h2)
theorem hM1_w {p : xH} {v : Int32} (h : hW p) : hW (hM1 p v) := by
  unfold hM1
  by_cases z : (rI p 66 47).toInt < 24
  · rw [if_pos z]
    have w1 : hW (wV p 96 (rI p 66 47).toInt.toNat (.int v)) := hW_wV h rfl
    exact hW_wV w1 rfl
  · rw [if_neg z]; exact hW_wV h rfl
def mA (p : xH) : Int32 := rI p 66 49
def mO (p : xH) : Int := (rI p 66 48).toInt
theorem mA_i {p : xH} : rI p 66 49 = mA p := rfl
theorem mO_i {p : xH} : (rI p 66 48).toInt = mO p := rfl
theorem mA_1 {p : xH} {v : Int32} : mA (hM1 p v) = mA p := by unfold mA rI; rw [hM1_o (fun _ => by decide) (by decide)]
theorem mA_g {p : xH} {l : List Int32} : mA (hMg p l) = mA p := by unfold mA rI; rw [hMg_o (fun _ => by decide) (by decide)]
theorem mO_1 {p : xH} {v : Int32} : mO (hM1 p v) = mO p := by unfold mO rI; rw [hM1_o (fun _ => by decide) (by decide)]
theorem mO_g {p : xH} {l : List Int32} : mO (hMg p l) = mO p := by unfold mO rI; rw [hMg_o (fun _ => by decide) (by decide)]
theorem hMg_s {p : xH} {v : Int32} {l : List Int32} : hMg (hM1 p v) l = hMg p (v :: l) := rfl
theorem hMg_1 {p : xH} {v : Int32} : hM1 p v = hMg p [v] := rfl
theorem s_begins {ro : List (List Int32)} {n d : Nat} {p : xH} {Q : Option Value → xH → Prop} {x : Int32} {xi : Int} (hx : x.toInt = xi)  (k0 : ∀ p2 : xH, (p2 = hM1 p x) → Q none p2) : hP ro n d (12, 2, 1, 0, k256) 0 (lv_args 0 [.ref 66, .int x]) [] p Q := by
  subst hx
  refine hp_id (ls := [(0, .ref 66), (1, .int x)]) ?_
  refine hp_s (pc' := 1) (st' := [.ref 66]) rfl rfl rfl ?_
  refine hp_get (k := 47) (pc' := 4) (v := (rI p 66 47)) rfl rfl rfl rfl rfl rfl ?_
  refine hp_s (pc' := 6) (st' := [.int 24, .int (rI p 66 47)]) rfl rfl rfl ?_
  refine hp_ic (pc' := 9) (t := 19) (a := (rI p 66 47).toInt) (b := 24) rfl rfl rfl rfl (by decide) (fun (h1 : 24 ≤ (rI p 66 47).toInt) => ?_) (fun (h2 : ¬ (24 ≤ (rI p 66 47).toInt)) => ?_)
  ·
    refine hp_s (pc' := 20) (st' := [.ref 66]) rfl rfl rfl ?_
    refine hp_s (pc' := 21) (st' := [.ref 66, .ref 66]) rfl rfl rfl ?_
    refine hp_get (k := 47) (pc' := 24) (v := (rI p 66 47)) rfl rfl rfl rfl rfl rfl ?_
    refine hp_s (pc' := 25) (st' := [.int 1, .int (rI p 66 47), .ref 66]) rfl rfl rfl ?_
    refine hp_z (pc' := 26) (e := (rI p 66 47) + 1) (st' := [.ref 66]) rfl rfl rfl ?_
    intro z1 hz1
    have ez1 := i_add hz1 (show (rI p 66 47).toInt = (rI p 66 47).toInt from rfl) (show (1 : Int32).toInt = 1 from by decide)
    refine hp_put (k := 47) (pc' := 29) rfl rfl rfl rfl rfl ?_
    intro p1 wp1 ep1
    refine hp_rv rfl rfl ?_
    first | (exact k0 _ (by (subst_vars; unfold hM1; first | rw [if_pos (by omega)] | rw [if_neg (by omega)]))) | (exfalso; omega)
  ·
    refine hp_s (pc' := 10) (st' := [.ref 66]) rfl rfl rfl ?_
    refine hp_getr (k := 46) (w := .ref 96) (pc' := 13) rfl rfl rfl rfl rfl ?_
    refine hp_s (pc' := 14) (st' := [.ref 66, .ref 96]) rfl rfl rfl ?_
    refine hp_get (k := 47) (pc' := 17) (v := (rI p 66 47)) rfl rfl rfl rfl rfl rfl ?_
    refine hp_s (pc' := 18) (st' := [.int x, .int (rI p 66 47), .ref 96]) rfl rfl rfl ?_
    refine hp_st (t := 100) rfl (.inl rfl) rfl rfl ?_
    intro p2 wp2 (p2a : 0 ≤ (rI p 66 47).toInt) (p2b : (rI p 66 47).toInt < 24) ep2
    refine hp_s (pc' := 20) (st' := [.ref 66]) rfl rfl rfl ?_
    refine hp_s (pc' := 21) (st' := [.ref 66, .ref 66]) rfl rfl rfl ?_
    refine hp_get (k := 47) (pc' := 24) (v := (rI p 66 47)) rfl rfl rfl rfl rfl (by rw [ep2, rI_o (by decide)]) ?_
    refine hp_s (pc' := 25) (st' := [.int 1, .int (rI p 66 47), .ref 66]) rfl rfl rfl ?_
    refine hp_z (pc' := 26) (e := (rI p 66 47) + 1) (st' := [.ref 66]) rfl rfl rfl ?_
    intro z2 hz2
    have ez2 := i_add hz2 (show (rI p 66 47).toInt = (rI p 66 47).toInt from rfl) (show (1 : Int32).toInt = 1 from by decide)
    refine hp_put (k := 47) (pc' := 29) rfl rfl rfl rfl rfl ?_
    intro p3 wp3 ep3
    refine hp_rv rfl rfl ?_
    first | (exact k0 _ (by (subst_vars; unfold hM1; first | rw [if_pos (by omega)] | rw [if_neg (by omega)]))) | (exfalso; omega)
theorem s_as0_0 {ro : List (List Int32)} {n d : Nat} {p : xH} {Q : Option Value → xH → Prop} {x : Int32} {xi : Int} (hx : x.toInt = xi)  (k0 : ∀ z : Int32, ∀ p2 : xH, (z = aL 0 (mA p) x) → (p2 = hMg p (nL 0)) → Q (some (.int z)) p2) : hP ro n d (12, 3, 1, 1, k257) 0 (lv_args 0 [.ref 66, .int 0, .int x]) [] p Q := by
  subst hx
  refine hp_id (ls := [(0, .ref 66), (1, .int 0), (2, .int x)]) ?_
  refine hp_s (pc' := 1) (st' := [.int 0]) rfl rfl rfl ?_
  refine hp_s (pc' := 2) (st' := [.int 1, .int 0]) rfl rfl rfl ?_
  refine hp_go (pc' := 5) rfl rfl rfl ?_
  refine hp_s (pc' := 6) (st' := [.int 0]) rfl rfl rfl ?_
  refine hp_s (pc' := 7) (st' := [.int 4, .int 0]) rfl rfl rfl ?_
  refine hp_go (pc' := 10) rfl rfl rfl ?_
  refine hp_s (pc' := 11) (st' := [.int 0]) rfl rfl rfl ?_
  refine hp_s (pc' := 13) (st' := [.int 7, .int 0]) rfl rfl rfl ?_
  refine hp_go (pc' := 31) rfl rfl rfl ?_
  refine hp_s (pc' := 32) (st' := [.int 0]) rfl rfl rfl ?_
  refine hp_s (pc' := 34) (st' := [.int 6, .int 0]) rfl rfl rfl ?_
  refine hp_go (pc' := 52) rfl rfl rfl ?_
  refine hp_s (pc' := 53) (st' := [.ref 66]) rfl rfl rfl ?_
  refine hp_s (pc' := 54) (st' := [.int 1, .ref 66]) rfl rfl rfl ?_
  refine hp_cv (r := 66) (o := 12) (kd := 1) (as := [.int 1]) (rest := []) (pc' := 57) rfl rfl rfl rfl rfl rfl rfl rfl rfl (fun d1 => ?_)
  refine s_begins (xi := 1) (by decide) ?_
  intro p1 h1
  refine hp_id (st := []) ?_
  refine hp_s (pc' := 58) (st' := [.int x]) rfl rfl rfl ?_
  refine hp_s (pc' := 59) (st' := [.ref 66, .int x]) rfl rfl rfl ?_
  refine hp_get (k := 49) (pc' := 62) (v := (rI p1 66 49)) rfl rfl rfl rfl rfl rfl ?_
  refine hp_z (pc' := 63) (e := x + (rI p1 66 49)) (st' := []) rfl rfl rfl ?_
  intro z1 hz1
  have ez1 := i_add hz1 (show x.toInt = x.toInt from rfl) (show (rI p1 66 49).toInt = (rI p1 66 49).toInt from rfl)
  refine hp_ri rfl rfl ?_
  first | (exact k0 _ _ (by (subst_vars; simp only [mA_i, mO_i, mA_1, mA_g, mO_1, mO_g, hMg_s, hMg_app, hMg_1, List.cons_append, List.nil_append]; first | done | (have fa := aL_a (k := k.toInt) (a := mA p) (x := x) (by omega); first | rw [← fa.1] | rw [← fa.2]) | (have fa := aL_b (k := k.toInt) (a := mA p) (x := x) (by omega); first | rw [← fa.1] | rw [← fa.2]) | (have fa := aL_c (k := k.toInt) (a := mA p) (x := x) (by omega) (by omega); first | rw [← fa.1] | rw [← fa.2]) | rfl)) (by (subst_vars; simp only [mA_i, mO_i, mA_1, mA_g, mO_1, mO_g, hMg_s, hMg_app, hMg_1, List.cons_append, List.nil_append]; first | done | (have fa := aL_a (k := k.toInt) (a := mA p) (x := x) (by omega); first | rw [← fa.1] | rw [← fa.2]) | (have fa := aL_b (k := k.toInt) (a := mA p) (x := x) (by omega); first | rw [← fa.1] | rw [← fa.2]) | (have fa := aL_c (k := k.toInt) (a := mA p) (x := x) (by omega) (by omega); first | rw [← fa.1] | rw [← fa.2]) | rfl))) | (exfalso; omega)
theorem s_as0 {ro : List (List Int32)} {n d : Nat} {p : xH} {Q : Option Value → xH → Prop} {k : Int32} {ki : Int} {x : Int32} {xi : Int} (hk : k.toInt = ki) (hx : x.toInt = xi)  (k0 : ∀ z : Int32, ∀ p2 : xH, (z = aL ki (mA p) x) → (p2 = hMg p (nL ki)) → Q (some (.int z)) p2) : hP ro n d (12, 3, 1, 1, k257) 0 (lv_args 0 [.ref 66, .int k, .int x]) [] p Q := by
  subst hk
  subst hx
  refine hp_id (ls := [(0, .ref 66), (1, .int k), (2, .int x)]) ?_
  refine hp_s (pc' := 1) (st' := [.int k]) rfl rfl rfl ?_
  refine hp_s (pc' := 2) (st' := [.int 1, .int k]) rfl rfl rfl ?_
  refine hp_ic (pc' := 5) (t := 16) (a := k.toInt) (b := 1) rfl rfl rfl rfl (by decide) (fun (h1 : k.toInt = 1) => ?_) (fun (h2 : ¬ (k.toInt = 1)) => ?_)
  ·
    refine hp_s (pc' := 17) (st' := [.ref 66]) rfl rfl rfl ?_
    refine hp_s (pc' := 19) (st' := [.int 20, .ref 66]) rfl rfl rfl ?_
    refine hp_cv (r := 66) (o := 12) (kd := 1) (as := [.int 20]) (rest := []) (pc' := 22) rfl rfl rfl rfl rfl rfl rfl rfl rfl (fun d1 => ?_)
    refine s_begins (xi := 20) (by decide) ?_
    intro p1 h3
    refine hp_id (st := []) ?_
    refine hp_s (pc' := 23) (st' := [.ref 66]) rfl rfl rfl ?_
    refine hp_s (pc' := 24) (st' := [.int 0, .ref 66]) rfl rfl rfl ?_
    refine hp_s (pc' := 25) (st' := [.int x, .int 0, .ref 66]) rfl rfl rfl ?_
    refine hp_cv (r := 66) (o := 12) (kd := 1) (as := [.int 0, .int x]) (rest := []) (pc' := 28) rfl rfl rfl rfl rfl rfl rfl rfl rfl (fun d2 => ?_)
    refine s_as0_0 (xi := x.toInt) rfl ?_
    intro y1 p2 h4 h5
    refine hp_id (st := [.int y1]) ?_
    refine hp_s (pc' := 29) (st' := [.int 3, .int y1]) rfl rfl rfl ?_
    refine hp_z (pc' := 30) (e := y1 + 3) (st' := []) rfl rfl rfl ?_
    intro z1 hz1
    have ez1 := i_add hz1 (show y1.toInt = y1.toInt from rfl) (show (3 : Int32).toInt = 3 from by decide)
    refine hp_ri rfl rfl ?_
    first | (exact k0 _ _ (by (subst_vars; simp only [mA_i, mO_i, mA_1, mA_g, mO_1, mO_g, hMg_s, hMg_app, hMg_1, List.cons_append, List.nil_append]; first | done | (have fa := aL_a (k := k.toInt) (a := mA p) (x := x) (by omega); first | rw [← fa.1] | rw [← fa.2]) | (have fa := aL_b (k := k.toInt) (a := mA p) (x := x) (by omega); first | rw [← fa.1] | rw [← fa.2]) | (have fa := aL_c (k := k.toInt) (a := mA p) (x := x) (by omega) (by omega); first | rw [← fa.1] | rw [← fa.2]) | rfl)) (by (subst_vars; simp only [mA_i, mO_i, mA_1, mA_g, mO_1, mO_g, hMg_s, hMg_app, hMg_1, List.cons_append, List.nil_append]; first | done | (have fa := aL_a (k := k.toInt) (a := mA p) (x := x) (by omega); first | rw [← fa.1] | rw [← fa.2]) | (have fa := aL_b (k := k.toInt) (a := mA p) (x := x) (by omega); first | rw [← fa.1] | rw [← fa.2]) | (have fa := aL_c (k := k.toInt) (a := mA p) (x := x) (by omega) (by omega); first | rw [← fa.1] | rw [← fa.2]) | rfl))) | (exfalso; omega)
  ·
    refine hp_s (pc' := 6) (st' := [.int k]) rfl rfl rfl ?_
    refine hp_s (pc' := 7) (st' := [.int 4, .int k]) rfl rfl rfl ?_
    refine hp_ic (pc' := 10) (t := 16) (a := k.toInt) (b := 4) rfl rfl rfl rfl (by decide) (fun (h6 : k.toInt = 4) => ?_) (fun (h7 : ¬ (k.toInt = 4)) => ?_)
    ·
      refine hp_s (pc' := 17) (st' := [.ref 66]) rfl rfl rfl ?_
      refine hp_s (pc' := 19) (st' := [.int 20, .ref 66]) rfl rfl rfl ?_
      refine hp_cv (r := 66) (o := 12) (kd := 1) (as := [.int 20]) (rest := []) (pc' := 22) rfl rfl rfl rfl rfl rfl rfl rfl rfl (fun d3 => ?_)
      refine s_begins (xi := 20) (by decide) ?_
      intro p3 h8
      refine hp_id (st := []) ?_
      refine hp_s (pc' := 23) (st' := [.ref 66]) rfl rfl rfl ?_
      refine hp_s (pc' := 24) (st' := [.int 0, .ref 66]) rfl rfl rfl ?_
      refine hp_s (pc' := 25) (st' := [.int x, .int 0, .ref 66]) rfl rfl rfl ?_
      refine hp_cv (r := 66) (o := 12) (kd := 1) (as := [.int 0, .int x]) (rest := []) (pc' := 28) rfl rfl rfl rfl rfl rfl rfl rfl rfl (fun d4 => ?_)
      refine s_as0_0 (xi := x.toInt) rfl ?_
      intro y2 p4 h9 h10
      refine hp_id (st := [.int y2]) ?_
      refine hp_s (pc' := 29) (st' := [.int 3, .int y2]) rfl rfl rfl ?_
      refine hp_z (pc' := 30) (e := y2 + 3) (st' := []) rfl rfl rfl ?_
      intro z2 hz2
      have ez2 := i_add hz2 (show y2.toInt = y2.toInt from rfl) (show (3 : Int32).toInt = 3 from by decide)
      refine hp_ri rfl rfl ?_
      first | (exact k0 _ _ (by (subst_vars; simp only [mA_i, mO_i, mA_1, mA_g, mO_1, mO_g, hMg_s, hMg_app, hMg_1, List.cons_append, List.nil_append]; first | done | (have fa := aL_a (k := k.toInt) (a := mA p) (x := x) (by omega); first | rw [← fa.1] | rw [← fa.2]) | (have fa := aL_b (k := k.toInt) (a := mA p) (x := x) (by omega); first | rw [← fa.1] | rw [← fa.2]) | (have fa := aL_c (k := k.toInt) (a := mA p) (x := x) (by omega) (by omega); first | rw [← fa.1] | rw [← fa.2]) | rfl)) (by (subst_vars; simp only [mA_i, mO_i, mA_1, mA_g, mO_1, mO_g, hMg_s, hMg_app, hMg_1, List.cons_append, List.nil_append]; first | done | (have fa := aL_a (k := k.toInt) (a := mA p) (x := x) (by omega); first | rw [← fa.1] | rw [← fa.2]) | (have fa := aL_b (k := k.toInt) (a := mA p) (x := x) (by omega); first | rw [← fa.1] | rw [← fa.2]) | (have fa := aL_c (k := k.toInt) (a := mA p) (x := x) (by omega) (by omega); first | rw [← fa.1] | rw [← fa.2]) | rfl))) | (exfalso; omega)
    ·
      refine hp_s (pc' := 11) (st' := [.int k]) rfl rfl rfl ?_
      refine hp_s (pc' := 13) (st' := [.int 7, .int k]) rfl rfl rfl ?_
      refine hp_ic (pc' := 16) (t := 31) (a := k.toInt) (b := 7) rfl rfl rfl rfl (by decide) (fun (h11 : k.toInt ≠ 7) => ?_) (fun (h12 : ¬ (k.toInt ≠ 7)) => ?_)
      ·
        refine hp_s (pc' := 32) (st' := [.int k]) rfl rfl rfl ?_
        refine hp_s (pc' := 34) (st' := [.int 6, .int k]) rfl rfl rfl ?_
        refine hp_ic (pc' := 37) (t := 52) (a := k.toInt) (b := 6) rfl rfl rfl rfl (by decide) (fun (h13 : k.toInt ≠ 6) => ?_) (fun (h14 : ¬ (k.toInt ≠ 6)) => ?_)
        ·
          refine hp_s (pc' := 53) (st' := [.ref 66]) rfl rfl rfl ?_
          refine hp_s (pc' := 54) (st' := [.int 1, .ref 66]) rfl rfl rfl ?_
          refine hp_cv (r := 66) (o := 12) (kd := 1) (as := [.int 1]) (rest := []) (pc' := 57) rfl rfl rfl rfl rfl rfl rfl rfl rfl (fun d5 => ?_)
          refine s_begins (xi := 1) (by decide) ?_
          intro p5 h15
          refine hp_id (st := []) ?_
          refine hp_s (pc' := 58) (st' := [.int x]) rfl rfl rfl ?_
          refine hp_s (pc' := 59) (st' := [.ref 66, .int x]) rfl rfl rfl ?_
          refine hp_get (k := 49) (pc' := 62) (v := (rI p5 66 49)) rfl rfl rfl rfl rfl rfl ?_
          refine hp_z (pc' := 63) (e := x + (rI p5 66 49)) (st' := []) rfl rfl rfl ?_
          intro z3 hz3
          have ez3 := i_add hz3 (show x.toInt = x.toInt from rfl) (show (rI p5 66 49).toInt = (rI p5 66 49).toInt from rfl)
          refine hp_ri rfl rfl ?_
          first | (exact k0 _ _ (by (subst_vars; simp only [mA_i, mO_i, mA_1, mA_g, mO_1, mO_g, hMg_s, hMg_app, hMg_1, List.cons_append, List.nil_append]; first | done | (have fa := aL_a (k := k.toInt) (a := mA p) (x := x) (by omega); first | rw [← fa.1] | rw [← fa.2]) | (have fa := aL_b (k := k.toInt) (a := mA p) (x := x) (by omega); first | rw [← fa.1] | rw [← fa.2]) | (have fa := aL_c (k := k.toInt) (a := mA p) (x := x) (by omega) (by omega); first | rw [← fa.1] | rw [← fa.2]) | rfl)) (by (subst_vars; simp only [mA_i, mO_i, mA_1, mA_g, mO_1, mO_g, hMg_s, hMg_app, hMg_1, List.cons_append, List.nil_append]; first | done | (have fa := aL_a (k := k.toInt) (a := mA p) (x := x) (by omega); first | rw [← fa.1] | rw [← fa.2]) | (have fa := aL_b (k := k.toInt) (a := mA p) (x := x) (by omega); first | rw [← fa.1] | rw [← fa.2]) | (have fa := aL_c (k := k.toInt) (a := mA p) (x := x) (by omega) (by omega); first | rw [← fa.1] | rw [← fa.2]) | rfl))) | (exfalso; omega)
        ·
          refine hp_s (pc' := 38) (st' := [.ref 66]) rfl rfl rfl ?_
          refine hp_s (pc' := 40) (st' := [.int 70, .ref 66]) rfl rfl rfl ?_
          refine hp_cv (r := 66) (o := 12) (kd := 1) (as := [.int 70]) (rest := []) (pc' := 43) rfl rfl rfl rfl rfl rfl rfl rfl rfl (fun d6 => ?_)
          refine s_begins (xi := 70) (by decide) ?_
          intro p6 h16
          refine hp_id (st := []) ?_
          refine hp_s (pc' := 44) (st' := [.ref 66]) rfl rfl rfl ?_
          refine hp_s (pc' := 45) (st' := [.int 0, .ref 66]) rfl rfl rfl ?_
          refine hp_s (pc' := 46) (st' := [.int x, .int 0, .ref 66]) rfl rfl rfl ?_
          refine hp_cv (r := 66) (o := 12) (kd := 1) (as := [.int 0, .int x]) (rest := []) (pc' := 49) rfl rfl rfl rfl rfl rfl rfl rfl rfl (fun d7 => ?_)
          refine s_as0_0 (xi := x.toInt) rfl ?_
          intro y3 p7 h17 h18
          refine hp_id (st := [.int y3]) ?_
          refine hp_s (pc' := 50) (st' := [.int 2, .int y3]) rfl rfl rfl ?_
          refine hp_z (pc' := 51) (e := y3 * 2) (st' := []) rfl rfl rfl ?_
          intro z4 hz4
          have ez4 := i_mul hz4 (show y3.toInt = y3.toInt from rfl) (show (2 : Int32).toInt = 2 from by decide)
          refine hp_ri rfl rfl ?_
          first | (exact k0 _ _ (by (subst_vars; simp only [mA_i, mO_i, mA_1, mA_g, mO_1, mO_g, hMg_s, hMg_app, hMg_1, List.cons_append, List.nil_append]; first | done | (have fa := aL_a (k := k.toInt) (a := mA p) (x := x) (by omega); first | rw [← fa.1] | rw [← fa.2]) | (have fa := aL_b (k := k.toInt) (a := mA p) (x := x) (by omega); first | rw [← fa.1] | rw [← fa.2]) | (have fa := aL_c (k := k.toInt) (a := mA p) (x := x) (by omega) (by omega); first | rw [← fa.1] | rw [← fa.2]) | rfl)) (by (subst_vars; simp only [mA_i, mO_i, mA_1, mA_g, mO_1, mO_g, hMg_s, hMg_app, hMg_1, List.cons_append, List.nil_append]; first | done | (have fa := aL_a (k := k.toInt) (a := mA p) (x := x) (by omega); first | rw [← fa.1] | rw [← fa.2]) | (have fa := aL_b (k := k.toInt) (a := mA p) (x := x) (by omega); first | rw [← fa.1] | rw [← fa.2]) | (have fa := aL_c (k := k.toInt) (a := mA p) (x := x) (by omega) (by omega); first | rw [← fa.1] | rw [← fa.2]) | rfl))) | (exfalso; omega)
      ·
        refine hp_s (pc' := 17) (st' := [.ref 66]) rfl rfl rfl ?_
        refine hp_s (pc' := 19) (st' := [.int 20, .ref 66]) rfl rfl rfl ?_
        refine hp_cv (r := 66) (o := 12) (kd := 1) (as := [.int 20]) (rest := []) (pc' := 22) rfl rfl rfl rfl rfl rfl rfl rfl rfl (fun d8 => ?_)
        refine s_begins (xi := 20) (by decide) ?_
        intro p8 h19
        refine hp_id (st := []) ?_
        refine hp_s (pc' := 23) (st' := [.ref 66]) rfl rfl rfl ?_
        refine hp_s (pc' := 24) (st' := [.int 0, .ref 66]) rfl rfl rfl ?_
        refine hp_s (pc' := 25) (st' := [.int x, .int 0, .ref 66]) rfl rfl rfl ?_
        refine hp_cv (r := 66) (o := 12) (kd := 1) (as := [.int 0, .int x]) (rest := []) (pc' := 28) rfl rfl rfl rfl rfl rfl rfl rfl rfl (fun d9 => ?_)
        refine s_as0_0 (xi := x.toInt) rfl ?_
        intro y4 p9 h20 h21
        refine hp_id (st := [.int y4]) ?_
        refine hp_s (pc' := 29) (st' := [.int 3, .int y4]) rfl rfl rfl ?_
        refine hp_z (pc' := 30) (e := y4 + 3) (st' := []) rfl rfl rfl ?_
        intro z5 hz5
        have ez5 := i_add hz5 (show y4.toInt = y4.toInt from rfl) (show (3 : Int32).toInt = 3 from by decide)
        refine hp_ri rfl rfl ?_
        first | (exact k0 _ _ (by (subst_vars; simp only [mA_i, mO_i, mA_1, mA_g, mO_1, mO_g, hMg_s, hMg_app, hMg_1, List.cons_append, List.nil_append]; first | done | (have fa := aL_a (k := k.toInt) (a := mA p) (x := x) (by omega); first | rw [← fa.1] | rw [← fa.2]) | (have fa := aL_b (k := k.toInt) (a := mA p) (x := x) (by omega); first | rw [← fa.1] | rw [← fa.2]) | (have fa := aL_c (k := k.toInt) (a := mA p) (x := x) (by omega) (by omega); first | rw [← fa.1] | rw [← fa.2]) | rfl)) (by (subst_vars; simp only [mA_i, mO_i, mA_1, mA_g, mO_1, mO_g, hMg_s, hMg_app, hMg_1, List.cons_append, List.nil_append]; first | done | (have fa := aL_a (k := k.toInt) (a := mA p) (x := x) (by omega); first | rw [← fa.1] | rw [← fa.2]) | (have fa := aL_b (k := k.toInt) (a := mA p) (x := x) (by omega); first | rw [← fa.1] | rw [← fa.2]) | (have fa := aL_c (k := k.toInt) (a := mA p) (x := x) (by omega) (by omega); first | rw [← fa.1] | rw [← fa.2]) | rfl))) | (exfalso; omega)
theorem s_as2_2 {ro : List (List Int32)} {n d : Nat} {p : xH} {Q : Option Value → xH → Prop} {x : Int32} {xi : Int} (hx : x.toInt = xi)  (k0 : ∀ z : Int32, ∀ p2 : xH, (z = aQ (mO p) 2 (mA p) x) → (p2 = hMg p (nQ (mO p) 2)) → Q (some (.int z)) p2) : hP ro n d (12, 4, 1, 1, k259) 0 (lv_args 0 [.ref 66, .int 2, .int x]) [] p Q := by
  subst hx
  refine hp_id (ls := [(0, .ref 66), (1, .int 2), (2, .int x)]) ?_
  refine hp_s (pc' := 1) (st' := [.int 2]) rfl rfl rfl ?_
  refine hp_s (pc' := 2) (st' := [.int 3, .int 2]) rfl rfl rfl ?_
  refine hp_go (pc' := 5) rfl rfl rfl ?_
  refine hp_s (pc' := 6) (st' := [.int 2]) rfl rfl rfl ?_
  refine hp_s (pc' := 7) (st' := [.int 5, .int 2]) rfl rfl rfl ?_
  refine hp_go (pc' := 25) rfl rfl rfl ?_
  refine hp_s (pc' := 26) (st' := [.int 2]) rfl rfl rfl ?_
  refine hp_s (pc' := 27) (st' := [.int 4, .int 2]) rfl rfl rfl ?_
  refine hp_go (pc' := 30) rfl rfl rfl ?_
  refine hp_s (pc' := 31) (st' := [.int 2]) rfl rfl rfl ?_
  refine hp_s (pc' := 33) (st' := [.int 7, .int 2]) rfl rfl rfl ?_
  refine hp_go (pc' := 61) rfl rfl rfl ?_
  refine hp_s (pc' := 62) (st' := [.ref 66]) rfl rfl rfl ?_
  refine hp_s (pc' := 64) (st' := [.int 11, .ref 66]) rfl rfl rfl ?_
  refine hp_cv (r := 66) (o := 12) (kd := 1) (as := [.int 11]) (rest := []) (pc' := 67) rfl rfl rfl rfl rfl rfl rfl rfl rfl (fun d1 => ?_)
  refine s_begins (xi := 11) (by decide) ?_
  intro p1 h1
  refine hp_id (st := []) ?_
  refine hp_s (pc' := 68) (st' := [.int x]) rfl rfl rfl ?_
  refine hp_s (pc' := 69) (st' := [.ref 66, .int x]) rfl rfl rfl ?_
  refine hp_get (k := 49) (pc' := 72) (v := (rI p1 66 49)) rfl rfl rfl rfl rfl rfl ?_
  refine hp_z (pc' := 73) (e := x ^^^ (rI p1 66 49)) (st' := []) rfl rfl rfl ?_
  intro z1 hz1
  refine hp_ri rfl rfl ?_
  first | (exact k0 _ _ (by (subst_vars; simp only [mA_i, mO_i, mA_1, mA_g, mO_1, mO_g, hMg_s, hMg_app, hMg_1, List.cons_append, List.nil_append]; first | done | (have fa := aQ_a (k := k.toInt) (a := mA p) (x := x) (o := mO p) (by omega); first | rw [← fa.1] | rw [← fa.2]) | (have fa := aQ_b (k := k.toInt) (a := mA p) (x := x) (o := mO p) (by omega); first | rw [← fa.1] | rw [← fa.2]) | (have fa := aQ_c (k := k.toInt) (a := mA p) (x := x) (o := mO p) (by omega) (by omega); first | rw [← fa.1] | rw [← fa.2]) | rfl)) (by (subst_vars; simp only [mA_i, mO_i, mA_1, mA_g, mO_1, mO_g, hMg_s, hMg_app, hMg_1, List.cons_append, List.nil_append]; first | done | (have fa := aQ_a (k := k.toInt) (a := mA p) (x := x) (o := mO p) (by omega); first | rw [← fa.1] | rw [← fa.2]) | (have fa := aQ_b (k := k.toInt) (a := mA p) (x := x) (o := mO p) (by omega); first | rw [← fa.1] | rw [← fa.2]) | (have fa := aQ_c (k := k.toInt) (a := mA p) (x := x) (o := mO p) (by omega) (by omega); first | rw [← fa.1] | rw [← fa.2]) | rfl))) | (exfalso; omega)
theorem s_as2_1 {ro : List (List Int32)} {n d : Nat} {p : xH} {Q : Option Value → xH → Prop} {x : Int32} {xi : Int} (hx : x.toInt = xi)  (k0 : ∀ z : Int32, ∀ p2 : xH, (z = aQ (mO p) 1 (mA p) x) → (p2 = hMg p (nQ (mO p) 1)) → Q (some (.int z)) p2) : hP ro n d (12, 4, 1, 1, k259) 0 (lv_args 0 [.ref 66, .int 1, .int x]) [] p Q := by
  subst hx
  refine hp_id (ls := [(0, .ref 66), (1, .int 1), (2, .int x)]) ?_
  refine hp_s (pc' := 1) (st' := [.int 1]) rfl rfl rfl ?_
  refine hp_s (pc' := 2) (st' := [.int 3, .int 1]) rfl rfl rfl ?_
  refine hp_go (pc' := 5) rfl rfl rfl ?_
  refine hp_s (pc' := 6) (st' := [.int 1]) rfl rfl rfl ?_
  refine hp_s (pc' := 7) (st' := [.int 5, .int 1]) rfl rfl rfl ?_
  refine hp_go (pc' := 25) rfl rfl rfl ?_
  refine hp_s (pc' := 26) (st' := [.int 1]) rfl rfl rfl ?_
  refine hp_s (pc' := 27) (st' := [.int 4, .int 1]) rfl rfl rfl ?_
  refine hp_go (pc' := 30) rfl rfl rfl ?_
  refine hp_s (pc' := 31) (st' := [.int 1]) rfl rfl rfl ?_
  refine hp_s (pc' := 33) (st' := [.int 7, .int 1]) rfl rfl rfl ?_
  refine hp_go (pc' := 61) rfl rfl rfl ?_
  refine hp_s (pc' := 62) (st' := [.ref 66]) rfl rfl rfl ?_
  refine hp_s (pc' := 64) (st' := [.int 11, .ref 66]) rfl rfl rfl ?_
  refine hp_cv (r := 66) (o := 12) (kd := 1) (as := [.int 11]) (rest := []) (pc' := 67) rfl rfl rfl rfl rfl rfl rfl rfl rfl (fun d1 => ?_)
  refine s_begins (xi := 11) (by decide) ?_
  intro p1 h1
  refine hp_id (st := []) ?_
  refine hp_s (pc' := 68) (st' := [.int x]) rfl rfl rfl ?_
  refine hp_s (pc' := 69) (st' := [.ref 66, .int x]) rfl rfl rfl ?_
  refine hp_get (k := 49) (pc' := 72) (v := (rI p1 66 49)) rfl rfl rfl rfl rfl rfl ?_
  refine hp_z (pc' := 73) (e := x ^^^ (rI p1 66 49)) (st' := []) rfl rfl rfl ?_
  intro z1 hz1
  refine hp_ri rfl rfl ?_
  first | (exact k0 _ _ (by (subst_vars; simp only [mA_i, mO_i, mA_1, mA_g, mO_1, mO_g, hMg_s, hMg_app, hMg_1, List.cons_append, List.nil_append]; first | done | (have fa := aQ_a (k := k.toInt) (a := mA p) (x := x) (o := mO p) (by omega); first | rw [← fa.1] | rw [← fa.2]) | (have fa := aQ_b (k := k.toInt) (a := mA p) (x := x) (o := mO p) (by omega); first | rw [← fa.1] | rw [← fa.2]) | (have fa := aQ_c (k := k.toInt) (a := mA p) (x := x) (o := mO p) (by omega) (by omega); first | rw [← fa.1] | rw [← fa.2]) | rfl)) (by (subst_vars; simp only [mA_i, mO_i, mA_1, mA_g, mO_1, mO_g, hMg_s, hMg_app, hMg_1, List.cons_append, List.nil_append]; first | done | (have fa := aQ_a (k := k.toInt) (a := mA p) (x := x) (o := mO p) (by omega); first | rw [← fa.1] | rw [← fa.2]) | (have fa := aQ_b (k := k.toInt) (a := mA p) (x := x) (o := mO p) (by omega); first | rw [← fa.1] | rw [← fa.2]) | (have fa := aQ_c (k := k.toInt) (a := mA p) (x := x) (o := mO p) (by omega) (by omega); first | rw [← fa.1] | rw [← fa.2]) | rfl))) | (exfalso; omega)
theorem s_as2 {ro : List (List Int32)} {n d : Nat} {p : xH} {Q : Option Value → xH → Prop} {k : Int32} {ki : Int} {x : Int32} {xi : Int} (hk : k.toInt = ki) (hx : x.toInt = xi)  (k0 : ∀ z : Int32, ∀ p2 : xH, (z = aQ (mO p) ki (mA p) x) → (p2 = hMg p (nQ (mO p) ki)) → Q (some (.int z)) p2) : hP ro n d (12, 4, 1, 1, k259) 0 (lv_args 0 [.ref 66, .int k, .int x]) [] p Q := by
  subst hk
  subst hx
  refine hp_id (ls := [(0, .ref 66), (1, .int k), (2, .int x)]) ?_
  refine hp_s (pc' := 1) (st' := [.int k]) rfl rfl rfl ?_
  refine hp_s (pc' := 2) (st' := [.int 3, .int k]) rfl rfl rfl ?_
  refine hp_ic (pc' := 5) (t := 10) (a := k.toInt) (b := 3) rfl rfl rfl rfl (by decide) (fun (h1 : k.toInt = 3) => ?_) (fun (h2 : ¬ (k.toInt = 3)) => ?_)
  ·
    refine hp_s (pc' := 11) (st' := [.ref 66]) rfl rfl rfl ?_
    refine hp_s (pc' := 13) (st' := [.int 40, .ref 66]) rfl rfl rfl ?_
    refine hp_cv (r := 66) (o := 12) (kd := 1) (as := [.int 40]) (rest := []) (pc' := 16) rfl rfl rfl rfl rfl rfl rfl rfl rfl (fun d1 => ?_)
    refine s_begins (xi := 40) (by decide) ?_
    intro p1 h3
    refine hp_id (st := []) ?_
    refine hp_s (pc' := 17) (st' := [.ref 66]) rfl rfl rfl ?_
    refine hp_s (pc' := 18) (st' := [.int 2, .ref 66]) rfl rfl rfl ?_
    refine hp_s (pc' := 19) (st' := [.int x, .int 2, .ref 66]) rfl rfl rfl ?_
    refine hp_cv (r := 66) (o := 12) (kd := 1) (as := [.int 2, .int x]) (rest := []) (pc' := 22) rfl rfl rfl rfl rfl rfl rfl rfl rfl (fun d2 => ?_)
    refine s_as2_2 (xi := x.toInt) rfl ?_
    intro y1 p2 h4 h5
    refine hp_id (st := [.int y1]) ?_
    refine hp_s (pc' := 23) (st' := [.int 3, .int y1]) rfl rfl rfl ?_
    refine hp_z (pc' := 24) (e := y1 * 3) (st' := []) rfl rfl rfl ?_
    intro z1 hz1
    have ez1 := i_mul hz1 (show y1.toInt = y1.toInt from rfl) (show (3 : Int32).toInt = 3 from by decide)
    refine hp_ri rfl rfl ?_
    first | (exact k0 _ _ (by (subst_vars; simp only [mA_i, mO_i, mA_1, mA_g, mO_1, mO_g, hMg_s, hMg_app, hMg_1, List.cons_append, List.nil_append]; first | done | (have fa := aQ_a (k := k.toInt) (a := mA p) (x := x) (o := mO p) (by omega); first | rw [← fa.1] | rw [← fa.2]) | (have fa := aQ_b (k := k.toInt) (a := mA p) (x := x) (o := mO p) (by omega); first | rw [← fa.1] | rw [← fa.2]) | (have fa := aQ_c (k := k.toInt) (a := mA p) (x := x) (o := mO p) (by omega) (by omega); first | rw [← fa.1] | rw [← fa.2]) | rfl)) (by (subst_vars; simp only [mA_i, mO_i, mA_1, mA_g, mO_1, mO_g, hMg_s, hMg_app, hMg_1, List.cons_append, List.nil_append]; first | done | (have fa := aQ_a (k := k.toInt) (a := mA p) (x := x) (o := mO p) (by omega); first | rw [← fa.1] | rw [← fa.2]) | (have fa := aQ_b (k := k.toInt) (a := mA p) (x := x) (o := mO p) (by omega); first | rw [← fa.1] | rw [← fa.2]) | (have fa := aQ_c (k := k.toInt) (a := mA p) (x := x) (o := mO p) (by omega) (by omega); first | rw [← fa.1] | rw [← fa.2]) | rfl))) | (exfalso; omega)
  ·
    refine hp_s (pc' := 6) (st' := [.int k]) rfl rfl rfl ?_
    refine hp_s (pc' := 7) (st' := [.int 5, .int k]) rfl rfl rfl ?_
    refine hp_ic (pc' := 10) (t := 25) (a := k.toInt) (b := 5) rfl rfl rfl rfl (by decide) (fun (h6 : k.toInt ≠ 5) => ?_) (fun (h7 : ¬ (k.toInt ≠ 5)) => ?_)
    ·
      refine hp_s (pc' := 26) (st' := [.int k]) rfl rfl rfl ?_
      refine hp_s (pc' := 27) (st' := [.int 4, .int k]) rfl rfl rfl ?_
      refine hp_ic (pc' := 30) (t := 36) (a := k.toInt) (b := 4) rfl rfl rfl rfl (by decide) (fun (h8 : k.toInt = 4) => ?_) (fun (h9 : ¬ (k.toInt = 4)) => ?_)
      ·
        refine hp_s (pc' := 37) (st' := [.ref 66]) rfl rfl rfl ?_
        refine hp_s (pc' := 39) (st' := [.int 50, .ref 66]) rfl rfl rfl ?_
        refine hp_cv (r := 66) (o := 12) (kd := 1) (as := [.int 50]) (rest := []) (pc' := 42) rfl rfl rfl rfl rfl rfl rfl rfl rfl (fun d3 => ?_)
        refine s_begins (xi := 50) (by decide) ?_
        intro p3 h10
        refine hp_id (st := []) ?_
        refine hp_s (pc' := 43) (st' := [.ref 66]) rfl rfl rfl ?_
        refine hp_s (pc' := 44) (st' := [.int 1, .ref 66]) rfl rfl rfl ?_
        refine hp_s (pc' := 45) (st' := [.int x, .int 1, .ref 66]) rfl rfl rfl ?_
        refine hp_cv (r := 66) (o := 12) (kd := 1) (as := [.int 1, .int x]) (rest := []) (pc' := 48) rfl rfl rfl rfl rfl rfl rfl rfl rfl (fun d4 => ?_)
        refine s_as2_1 (xi := x.toInt) rfl ?_
        intro y2 p4 h11 h12
        refine hp_id (st := [.int y2]) ?_
        refine hp_s (pc' := 49) (ls' := [(3, .int y2), (0, .ref 66), (1, .int k), (2, .int x)]) (st' := []) rfl rfl rfl ?_
        refine hp_s (pc' := 50) (st' := [.int y2]) rfl rfl rfl ?_
        refine hp_s (pc' := 51) (st' := [.ref 66, .int y2]) rfl rfl rfl ?_
        refine hp_s (pc' := 52) (st' := [.ref 66, .ref 66, .int y2]) rfl rfl rfl ?_
        refine hp_get (k := 48) (pc' := 55) (v := (rI p4 66 48)) rfl rfl rfl rfl rfl rfl ?_
        refine hp_s (pc' := 56) (st' := [.int 2, .int (rI p4 66 48), .ref 66, .int y2]) rfl rfl rfl ?_
        refine hp_cv (r := 66) (o := 12) (kd := 1) (as := [.int (rI p4 66 48), .int 2]) (rest := [.int y2]) (pc' := 59) rfl rfl rfl rfl rfl rfl rfl rfl rfl (fun d5 => ?_)
        refine s_as0 (ki := (rI p4 66 48).toInt) rfl (xi := 2) (by decide) ?_
        intro y3 p5 h13 h14
        refine hp_id (st := [.int y3, .int y2]) ?_
        refine hp_z (pc' := 60) (e := y2 - y3) (st' := []) rfl rfl rfl ?_
        intro z2 hz2
        have ez2 := i_sub hz2 (show y2.toInt = y2.toInt from rfl) (show y3.toInt = y3.toInt from rfl)
        refine hp_ri rfl rfl ?_
        first | (exact k0 _ _ (by (subst_vars; simp only [mA_i, mO_i, mA_1, mA_g, mO_1, mO_g, hMg_s, hMg_app, hMg_1, List.cons_append, List.nil_append]; first | done | (have fa := aQ_a (k := k.toInt) (a := mA p) (x := x) (o := mO p) (by omega); first | rw [← fa.1] | rw [← fa.2]) | (have fa := aQ_b (k := k.toInt) (a := mA p) (x := x) (o := mO p) (by omega); first | rw [← fa.1] | rw [← fa.2]) | (have fa := aQ_c (k := k.toInt) (a := mA p) (x := x) (o := mO p) (by omega) (by omega); first | rw [← fa.1] | rw [← fa.2]) | rfl)) (by (subst_vars; simp only [mA_i, mO_i, mA_1, mA_g, mO_1, mO_g, hMg_s, hMg_app, hMg_1, List.cons_append, List.nil_append]; first | done | (have fa := aQ_a (k := k.toInt) (a := mA p) (x := x) (o := mO p) (by omega); first | rw [← fa.1] | rw [← fa.2]) | (have fa := aQ_b (k := k.toInt) (a := mA p) (x := x) (o := mO p) (by omega); first | rw [← fa.1] | rw [← fa.2]) | (have fa := aQ_c (k := k.toInt) (a := mA p) (x := x) (o := mO p) (by omega) (by omega); first | rw [← fa.1] | rw [← fa.2]) | rfl))) | (exfalso; omega)
      ·
        refine hp_s (pc' := 31) (st' := [.int k]) rfl rfl rfl ?_
        refine hp_s (pc' := 33) (st' := [.int 7, .int k]) rfl rfl rfl ?_
        refine hp_ic (pc' := 36) (t := 61) (a := k.toInt) (b := 7) rfl rfl rfl rfl (by decide) (fun (h15 : k.toInt ≠ 7) => ?_) (fun (h16 : ¬ (k.toInt ≠ 7)) => ?_)
        ·
          refine hp_s (pc' := 62) (st' := [.ref 66]) rfl rfl rfl ?_
          refine hp_s (pc' := 64) (st' := [.int 11, .ref 66]) rfl rfl rfl ?_
          refine hp_cv (r := 66) (o := 12) (kd := 1) (as := [.int 11]) (rest := []) (pc' := 67) rfl rfl rfl rfl rfl rfl rfl rfl rfl (fun d6 => ?_)
          refine s_begins (xi := 11) (by decide) ?_
          intro p6 h17
          refine hp_id (st := []) ?_
          refine hp_s (pc' := 68) (st' := [.int x]) rfl rfl rfl ?_
          refine hp_s (pc' := 69) (st' := [.ref 66, .int x]) rfl rfl rfl ?_
          refine hp_get (k := 49) (pc' := 72) (v := (rI p6 66 49)) rfl rfl rfl rfl rfl rfl ?_
          refine hp_z (pc' := 73) (e := x ^^^ (rI p6 66 49)) (st' := []) rfl rfl rfl ?_
          intro z3 hz3
          refine hp_ri rfl rfl ?_
          first | (exact k0 _ _ (by (subst_vars; simp only [mA_i, mO_i, mA_1, mA_g, mO_1, mO_g, hMg_s, hMg_app, hMg_1, List.cons_append, List.nil_append]; first | done | (have fa := aQ_a (k := k.toInt) (a := mA p) (x := x) (o := mO p) (by omega); first | rw [← fa.1] | rw [← fa.2]) | (have fa := aQ_b (k := k.toInt) (a := mA p) (x := x) (o := mO p) (by omega); first | rw [← fa.1] | rw [← fa.2]) | (have fa := aQ_c (k := k.toInt) (a := mA p) (x := x) (o := mO p) (by omega) (by omega); first | rw [← fa.1] | rw [← fa.2]) | rfl)) (by (subst_vars; simp only [mA_i, mO_i, mA_1, mA_g, mO_1, mO_g, hMg_s, hMg_app, hMg_1, List.cons_append, List.nil_append]; first | done | (have fa := aQ_a (k := k.toInt) (a := mA p) (x := x) (o := mO p) (by omega); first | rw [← fa.1] | rw [← fa.2]) | (have fa := aQ_b (k := k.toInt) (a := mA p) (x := x) (o := mO p) (by omega); first | rw [← fa.1] | rw [← fa.2]) | (have fa := aQ_c (k := k.toInt) (a := mA p) (x := x) (o := mO p) (by omega) (by omega); first | rw [← fa.1] | rw [← fa.2]) | rfl))) | (exfalso; omega)
        ·
          refine hp_s (pc' := 37) (st' := [.ref 66]) rfl rfl rfl ?_
          refine hp_s (pc' := 39) (st' := [.int 50, .ref 66]) rfl rfl rfl ?_
          refine hp_cv (r := 66) (o := 12) (kd := 1) (as := [.int 50]) (rest := []) (pc' := 42) rfl rfl rfl rfl rfl rfl rfl rfl rfl (fun d7 => ?_)
          refine s_begins (xi := 50) (by decide) ?_
          intro p7 h18
          refine hp_id (st := []) ?_
          refine hp_s (pc' := 43) (st' := [.ref 66]) rfl rfl rfl ?_
          refine hp_s (pc' := 44) (st' := [.int 1, .ref 66]) rfl rfl rfl ?_
          refine hp_s (pc' := 45) (st' := [.int x, .int 1, .ref 66]) rfl rfl rfl ?_
          refine hp_cv (r := 66) (o := 12) (kd := 1) (as := [.int 1, .int x]) (rest := []) (pc' := 48) rfl rfl rfl rfl rfl rfl rfl rfl rfl (fun d8 => ?_)
          refine s_as2_1 (xi := x.toInt) rfl ?_
          intro y4 p8 h19 h20
          refine hp_id (st := [.int y4]) ?_
          refine hp_s (pc' := 49) (ls' := [(3, .int y4), (0, .ref 66), (1, .int k), (2, .int x)]) (st' := []) rfl rfl rfl ?_
          refine hp_s (pc' := 50) (st' := [.int y4]) rfl rfl rfl ?_
          refine hp_s (pc' := 51) (st' := [.ref 66, .int y4]) rfl rfl rfl ?_
          refine hp_s (pc' := 52) (st' := [.ref 66, .ref 66, .int y4]) rfl rfl rfl ?_
          refine hp_get (k := 48) (pc' := 55) (v := (rI p8 66 48)) rfl rfl rfl rfl rfl rfl ?_
          refine hp_s (pc' := 56) (st' := [.int 2, .int (rI p8 66 48), .ref 66, .int y4]) rfl rfl rfl ?_
          refine hp_cv (r := 66) (o := 12) (kd := 1) (as := [.int (rI p8 66 48), .int 2]) (rest := [.int y4]) (pc' := 59) rfl rfl rfl rfl rfl rfl rfl rfl rfl (fun d9 => ?_)
          refine s_as0 (ki := (rI p8 66 48).toInt) rfl (xi := 2) (by decide) ?_
          intro y5 p9 h21 h22
          refine hp_id (st := [.int y5, .int y4]) ?_
          refine hp_z (pc' := 60) (e := y4 - y5) (st' := []) rfl rfl rfl ?_
          intro z4 hz4
          have ez4 := i_sub hz4 (show y4.toInt = y4.toInt from rfl) (show y5.toInt = y5.toInt from rfl)
          refine hp_ri rfl rfl ?_
          first | (exact k0 _ _ (by (subst_vars; simp only [mA_i, mO_i, mA_1, mA_g, mO_1, mO_g, hMg_s, hMg_app, hMg_1, List.cons_append, List.nil_append]; first | done | (have fa := aQ_a (k := k.toInt) (a := mA p) (x := x) (o := mO p) (by omega); first | rw [← fa.1] | rw [← fa.2]) | (have fa := aQ_b (k := k.toInt) (a := mA p) (x := x) (o := mO p) (by omega); first | rw [← fa.1] | rw [← fa.2]) | (have fa := aQ_c (k := k.toInt) (a := mA p) (x := x) (o := mO p) (by omega) (by omega); first | rw [← fa.1] | rw [← fa.2]) | rfl)) (by (subst_vars; simp only [mA_i, mO_i, mA_1, mA_g, mO_1, mO_g, hMg_s, hMg_app, hMg_1, List.cons_append, List.nil_append]; first | done | (have fa := aQ_a (k := k.toInt) (a := mA p) (x := x) (o := mO p) (by omega); first | rw [← fa.1] | rw [← fa.2]) | (have fa := aQ_b (k := k.toInt) (a := mA p) (x := x) (o := mO p) (by omega); first | rw [← fa.1] | rw [← fa.2]) | (have fa := aQ_c (k := k.toInt) (a := mA p) (x := x) (o := mO p) (by omega) (by omega); first | rw [← fa.1] | rw [← fa.2]) | rfl))) | (exfalso; omega)
    ·
      refine hp_s (pc' := 11) (st' := [.ref 66]) rfl rfl rfl ?_
      refine hp_s (pc' := 13) (st' := [.int 40, .ref 66]) rfl rfl rfl ?_
      refine hp_cv (r := 66) (o := 12) (kd := 1) (as := [.int 40]) (rest := []) (pc' := 16) rfl rfl rfl rfl rfl rfl rfl rfl rfl (fun d10 => ?_)
      refine s_begins (xi := 40) (by decide) ?_
      intro p10 h23
      refine hp_id (st := []) ?_
      refine hp_s (pc' := 17) (st' := [.ref 66]) rfl rfl rfl ?_
      refine hp_s (pc' := 18) (st' := [.int 2, .ref 66]) rfl rfl rfl ?_
      refine hp_s (pc' := 19) (st' := [.int x, .int 2, .ref 66]) rfl rfl rfl ?_
      refine hp_cv (r := 66) (o := 12) (kd := 1) (as := [.int 2, .int x]) (rest := []) (pc' := 22) rfl rfl rfl rfl rfl rfl rfl rfl rfl (fun d11 => ?_)
      refine s_as2_2 (xi := x.toInt) rfl ?_
      intro y6 p11 h24 h25
      refine hp_id (st := [.int y6]) ?_
      refine hp_s (pc' := 23) (st' := [.int 3, .int y6]) rfl rfl rfl ?_
      refine hp_z (pc' := 24) (e := y6 * 3) (st' := []) rfl rfl rfl ?_
      intro z5 hz5
      have ez5 := i_mul hz5 (show y6.toInt = y6.toInt from rfl) (show (3 : Int32).toInt = 3 from by decide)
      refine hp_ri rfl rfl ?_
      first | (exact k0 _ _ (by (subst_vars; simp only [mA_i, mO_i, mA_1, mA_g, mO_1, mO_g, hMg_s, hMg_app, hMg_1, List.cons_append, List.nil_append]; first | done | (have fa := aQ_a (k := k.toInt) (a := mA p) (x := x) (o := mO p) (by omega); first | rw [← fa.1] | rw [← fa.2]) | (have fa := aQ_b (k := k.toInt) (a := mA p) (x := x) (o := mO p) (by omega); first | rw [← fa.1] | rw [← fa.2]) | (have fa := aQ_c (k := k.toInt) (a := mA p) (x := x) (o := mO p) (by omega) (by omega); first | rw [← fa.1] | rw [← fa.2]) | rfl)) (by (subst_vars; simp only [mA_i, mO_i, mA_1, mA_g, mO_1, mO_g, hMg_s, hMg_app, hMg_1, List.cons_append, List.nil_append]; first | done | (have fa := aQ_a (k := k.toInt) (a := mA p) (x := x) (o := mO p) (by omega); first | rw [← fa.1] | rw [← fa.2]) | (have fa := aQ_b (k := k.toInt) (a := mA p) (x := x) (o := mO p) (by omega); first | rw [← fa.1] | rw [← fa.2]) | (have fa := aQ_c (k := k.toInt) (a := mA p) (x := x) (o := mO p) (by omega) (by omega); first | rw [← fa.1] | rw [← fa.2]) | rfl))) | (exfalso; omega)
theorem s_as1_0 {ro : List (List Int32)} {n d : Nat} {p : xH} {Q : Option Value → xH → Prop} {x : Int32} {xi : Int} (hx : x.toInt = xi)  (k0 : ∀ z : Int32, ∀ p2 : xH, (z = aW (mO p) 0 (mA p) x) → (p2 = hMg p (nW (mO p) 0)) → Q (some (.int z)) p2) : hP ro n d (12, 4, 1, 1, k258) 0 (lv_args 0 [.ref 66, .int 0, .int x]) [] p Q := by
  subst hx
  refine hp_id (ls := [(0, .ref 66), (1, .int 0), (2, .int x)]) ?_
  refine hp_s (pc' := 1) (st' := [.int 0]) rfl rfl rfl ?_
  refine hp_s (pc' := 2) (st' := [.int 3, .int 0]) rfl rfl rfl ?_
  refine hp_go (pc' := 5) rfl rfl rfl ?_
  refine hp_s (pc' := 6) (st' := [.int 0]) rfl rfl rfl ?_
  refine hp_s (pc' := 7) (st' := [.int 5, .int 0]) rfl rfl rfl ?_
  refine hp_go (pc' := 25) rfl rfl rfl ?_
  refine hp_s (pc' := 26) (st' := [.int 0]) rfl rfl rfl ?_
  refine hp_s (pc' := 27) (st' := [.int 2, .int 0]) rfl rfl rfl ?_
  refine hp_go (pc' := 44) rfl rfl rfl ?_
  refine hp_s (pc' := 45) (st' := [.int 0]) rfl rfl rfl ?_
  refine hp_s (pc' := 47) (st' := [.int 7, .int 0]) rfl rfl rfl ?_
  refine hp_go (pc' := 75) rfl rfl rfl ?_
  refine hp_s (pc' := 76) (st' := [.ref 66]) rfl rfl rfl ?_
  refine hp_s (pc' := 78) (st' := [.int 10, .ref 66]) rfl rfl rfl ?_
  refine hp_cv (r := 66) (o := 12) (kd := 1) (as := [.int 10]) (rest := []) (pc' := 81) rfl rfl rfl rfl rfl rfl rfl rfl rfl (fun d1 => ?_)
  refine s_begins (xi := 10) (by decide) ?_
  intro p1 h1
  refine hp_id (st := []) ?_
  refine hp_s (pc' := 82) (st' := [.ref 66]) rfl rfl rfl ?_
  refine hp_s (pc' := 83) (st' := [.ref 66, .ref 66]) rfl rfl rfl ?_
  refine hp_get (k := 48) (pc' := 86) (v := (rI p1 66 48)) rfl rfl rfl rfl rfl rfl ?_
  refine hp_s (pc' := 87) (st' := [.int x, .int (rI p1 66 48), .ref 66]) rfl rfl rfl ?_
  refine hp_cv (r := 66) (o := 12) (kd := 1) (as := [.int (rI p1 66 48), .int x]) (rest := []) (pc' := 90) rfl rfl rfl rfl rfl rfl rfl rfl rfl (fun d2 => ?_)
  refine s_as0 (ki := (rI p1 66 48).toInt) rfl (xi := x.toInt) rfl ?_
  intro y1 p2 h2 h3
  refine hp_id (st := [.int y1]) ?_
  refine hp_s (pc' := 91) (st' := [.int 2, .int y1]) rfl rfl rfl ?_
  refine hp_z (pc' := 92) (e := y1 * 2) (st' := []) rfl rfl rfl ?_
  intro z1 hz1
  have ez1 := i_mul hz1 (show y1.toInt = y1.toInt from rfl) (show (2 : Int32).toInt = 2 from by decide)
  refine hp_ri rfl rfl ?_
  first | (exact k0 _ _ (by (subst_vars; simp only [mA_i, mO_i, mA_1, mA_g, mO_1, mO_g, hMg_s, hMg_app, hMg_1, List.cons_append, List.nil_append]; first | done | (have fa := aW_a (k := k.toInt) (a := mA p) (x := x) (o := mO p) (by omega); first | rw [← fa.1] | rw [← fa.2]) | (have fa := aW_b (k := k.toInt) (a := mA p) (x := x) (o := mO p) (by omega); first | rw [← fa.1] | rw [← fa.2]) | (have fa := aW_d (k := k.toInt) (a := mA p) (x := x) (o := mO p) (by omega); first | rw [← fa.1] | rw [← fa.2]) | (have fa := aW_c (k := k.toInt) (a := mA p) (x := x) (o := mO p) (by omega) (by omega) (by omega); first | rw [← fa.1] | rw [← fa.2]) | rfl)) (by (subst_vars; simp only [mA_i, mO_i, mA_1, mA_g, mO_1, mO_g, hMg_s, hMg_app, hMg_1, List.cons_append, List.nil_append]; first | done | (have fa := aW_a (k := k.toInt) (a := mA p) (x := x) (o := mO p) (by omega); first | rw [← fa.1] | rw [← fa.2]) | (have fa := aW_b (k := k.toInt) (a := mA p) (x := x) (o := mO p) (by omega); first | rw [← fa.1] | rw [← fa.2]) | (have fa := aW_d (k := k.toInt) (a := mA p) (x := x) (o := mO p) (by omega); first | rw [← fa.1] | rw [← fa.2]) | (have fa := aW_c (k := k.toInt) (a := mA p) (x := x) (o := mO p) (by omega) (by omega) (by omega); first | rw [← fa.1] | rw [← fa.2]) | rfl))) | (exfalso; omega)
theorem s_as1_4 {ro : List (List Int32)} {n d : Nat} {p : xH} {Q : Option Value → xH → Prop} {x : Int32} {xi : Int} (hx : x.toInt = xi)  (k0 : ∀ z : Int32, ∀ p2 : xH, (z = aW (mO p) 4 (mA p) x) → (p2 = hMg p (nW (mO p) 4)) → Q (some (.int z)) p2) : hP ro n d (12, 4, 1, 1, k258) 0 (lv_args 0 [.ref 66, .int 4, .int x]) [] p Q := by
  subst hx
  refine hp_id (ls := [(0, .ref 66), (1, .int 4), (2, .int x)]) ?_
  refine hp_s (pc' := 1) (st' := [.int 4]) rfl rfl rfl ?_
  refine hp_s (pc' := 2) (st' := [.int 3, .int 4]) rfl rfl rfl ?_
  refine hp_go (pc' := 5) rfl rfl rfl ?_
  refine hp_s (pc' := 6) (st' := [.int 4]) rfl rfl rfl ?_
  refine hp_s (pc' := 7) (st' := [.int 5, .int 4]) rfl rfl rfl ?_
  refine hp_go (pc' := 25) rfl rfl rfl ?_
  refine hp_s (pc' := 26) (st' := [.int 4]) rfl rfl rfl ?_
  refine hp_s (pc' := 27) (st' := [.int 2, .int 4]) rfl rfl rfl ?_
  refine hp_go (pc' := 44) rfl rfl rfl ?_
  refine hp_s (pc' := 45) (st' := [.int 4]) rfl rfl rfl ?_
  refine hp_s (pc' := 47) (st' := [.int 7, .int 4]) rfl rfl rfl ?_
  refine hp_go (pc' := 75) rfl rfl rfl ?_
  refine hp_s (pc' := 76) (st' := [.ref 66]) rfl rfl rfl ?_
  refine hp_s (pc' := 78) (st' := [.int 10, .ref 66]) rfl rfl rfl ?_
  refine hp_cv (r := 66) (o := 12) (kd := 1) (as := [.int 10]) (rest := []) (pc' := 81) rfl rfl rfl rfl rfl rfl rfl rfl rfl (fun d1 => ?_)
  refine s_begins (xi := 10) (by decide) ?_
  intro p1 h1
  refine hp_id (st := []) ?_
  refine hp_s (pc' := 82) (st' := [.ref 66]) rfl rfl rfl ?_
  refine hp_s (pc' := 83) (st' := [.ref 66, .ref 66]) rfl rfl rfl ?_
  refine hp_get (k := 48) (pc' := 86) (v := (rI p1 66 48)) rfl rfl rfl rfl rfl rfl ?_
  refine hp_s (pc' := 87) (st' := [.int x, .int (rI p1 66 48), .ref 66]) rfl rfl rfl ?_
  refine hp_cv (r := 66) (o := 12) (kd := 1) (as := [.int (rI p1 66 48), .int x]) (rest := []) (pc' := 90) rfl rfl rfl rfl rfl rfl rfl rfl rfl (fun d2 => ?_)
  refine s_as0 (ki := (rI p1 66 48).toInt) rfl (xi := x.toInt) rfl ?_
  intro y1 p2 h2 h3
  refine hp_id (st := [.int y1]) ?_
  refine hp_s (pc' := 91) (st' := [.int 2, .int y1]) rfl rfl rfl ?_
  refine hp_z (pc' := 92) (e := y1 * 2) (st' := []) rfl rfl rfl ?_
  intro z1 hz1
  have ez1 := i_mul hz1 (show y1.toInt = y1.toInt from rfl) (show (2 : Int32).toInt = 2 from by decide)
  refine hp_ri rfl rfl ?_
  first | (exact k0 _ _ (by (subst_vars; simp only [mA_i, mO_i, mA_1, mA_g, mO_1, mO_g, hMg_s, hMg_app, hMg_1, List.cons_append, List.nil_append]; first | done | (have fa := aW_a (k := k.toInt) (a := mA p) (x := x) (o := mO p) (by omega); first | rw [← fa.1] | rw [← fa.2]) | (have fa := aW_b (k := k.toInt) (a := mA p) (x := x) (o := mO p) (by omega); first | rw [← fa.1] | rw [← fa.2]) | (have fa := aW_d (k := k.toInt) (a := mA p) (x := x) (o := mO p) (by omega); first | rw [← fa.1] | rw [← fa.2]) | (have fa := aW_c (k := k.toInt) (a := mA p) (x := x) (o := mO p) (by omega) (by omega) (by omega); first | rw [← fa.1] | rw [← fa.2]) | rfl)) (by (subst_vars; simp only [mA_i, mO_i, mA_1, mA_g, mO_1, mO_g, hMg_s, hMg_app, hMg_1, List.cons_append, List.nil_append]; first | done | (have fa := aW_a (k := k.toInt) (a := mA p) (x := x) (o := mO p) (by omega); first | rw [← fa.1] | rw [← fa.2]) | (have fa := aW_b (k := k.toInt) (a := mA p) (x := x) (o := mO p) (by omega); first | rw [← fa.1] | rw [← fa.2]) | (have fa := aW_d (k := k.toInt) (a := mA p) (x := x) (o := mO p) (by omega); first | rw [← fa.1] | rw [← fa.2]) | (have fa := aW_c (k := k.toInt) (a := mA p) (x := x) (o := mO p) (by omega) (by omega) (by omega); first | rw [← fa.1] | rw [← fa.2]) | rfl))) | (exfalso; omega)
theorem s_as1_2 {ro : List (List Int32)} {n d : Nat} {p : xH} {Q : Option Value → xH → Prop} {x : Int32} {xi : Int} (hx : x.toInt = xi)  (k0 : ∀ z : Int32, ∀ p2 : xH, (z = aW (mO p) 2 (mA p) x) → (p2 = hMg p (nW (mO p) 2)) → Q (some (.int z)) p2) : hP ro n d (12, 4, 1, 1, k258) 0 (lv_args 0 [.ref 66, .int 2, .int x]) [] p Q := by
  subst hx
  refine hp_id (ls := [(0, .ref 66), (1, .int 2), (2, .int x)]) ?_
  refine hp_s (pc' := 1) (st' := [.int 2]) rfl rfl rfl ?_
  refine hp_s (pc' := 2) (st' := [.int 3, .int 2]) rfl rfl rfl ?_
  refine hp_go (pc' := 5) rfl rfl rfl ?_
  refine hp_s (pc' := 6) (st' := [.int 2]) rfl rfl rfl ?_
  refine hp_s (pc' := 7) (st' := [.int 5, .int 2]) rfl rfl rfl ?_
  refine hp_go (pc' := 25) rfl rfl rfl ?_
  refine hp_s (pc' := 26) (st' := [.int 2]) rfl rfl rfl ?_
  refine hp_s (pc' := 27) (st' := [.int 2, .int 2]) rfl rfl rfl ?_
  refine hp_go (pc' := 30) rfl rfl rfl ?_
  refine hp_s (pc' := 31) (st' := [.ref 66]) rfl rfl rfl ?_
  refine hp_s (pc' := 33) (st' := [.int 30, .ref 66]) rfl rfl rfl ?_
  refine hp_cv (r := 66) (o := 12) (kd := 1) (as := [.int 30]) (rest := []) (pc' := 36) rfl rfl rfl rfl rfl rfl rfl rfl rfl (fun d1 => ?_)
  refine s_begins (xi := 30) (by decide) ?_
  intro p1 h1
  refine hp_id (st := []) ?_
  refine hp_s (pc' := 37) (st' := [.ref 66]) rfl rfl rfl ?_
  refine hp_s (pc' := 38) (st' := [.int 0, .ref 66]) rfl rfl rfl ?_
  refine hp_s (pc' := 39) (st' := [.int x, .int 0, .ref 66]) rfl rfl rfl ?_
  refine hp_cv (r := 66) (o := 12) (kd := 1) (as := [.int 0, .int x]) (rest := []) (pc' := 42) rfl rfl rfl rfl rfl rfl rfl rfl rfl (fun d2 => ?_)
  refine s_as1_0 (xi := x.toInt) rfl ?_
  intro y1 p2 h2 h3
  refine hp_id (st := [.int y1]) ?_
  refine hp_z (pc' := 43) (e := -y1) (st' := []) rfl rfl rfl ?_
  intro z1 hz1
  have ez1 := i_neg hz1 (show y1.toInt = y1.toInt from rfl)
  refine hp_ri rfl rfl ?_
  first | (exact k0 _ _ (by (subst_vars; simp only [mA_i, mO_i, mA_1, mA_g, mO_1, mO_g, hMg_s, hMg_app, hMg_1, List.cons_append, List.nil_append]; first | done | (have fa := aW_a (k := k.toInt) (a := mA p) (x := x) (o := mO p) (by omega); first | rw [← fa.1] | rw [← fa.2]) | (have fa := aW_b (k := k.toInt) (a := mA p) (x := x) (o := mO p) (by omega); first | rw [← fa.1] | rw [← fa.2]) | (have fa := aW_d (k := k.toInt) (a := mA p) (x := x) (o := mO p) (by omega); first | rw [← fa.1] | rw [← fa.2]) | (have fa := aW_c (k := k.toInt) (a := mA p) (x := x) (o := mO p) (by omega) (by omega) (by omega); first | rw [← fa.1] | rw [← fa.2]) | rfl)) (by (subst_vars; simp only [mA_i, mO_i, mA_1, mA_g, mO_1, mO_g, hMg_s, hMg_app, hMg_1, List.cons_append, List.nil_append]; first | done | (have fa := aW_a (k := k.toInt) (a := mA p) (x := x) (o := mO p) (by omega); first | rw [← fa.1] | rw [← fa.2]) | (have fa := aW_b (k := k.toInt) (a := mA p) (x := x) (o := mO p) (by omega); first | rw [← fa.1] | rw [← fa.2]) | (have fa := aW_d (k := k.toInt) (a := mA p) (x := x) (o := mO p) (by omega); first | rw [← fa.1] | rw [← fa.2]) | (have fa := aW_c (k := k.toInt) (a := mA p) (x := x) (o := mO p) (by omega) (by omega) (by omega); first | rw [← fa.1] | rw [← fa.2]) | rfl))) | (exfalso; omega)
theorem s_as1 {ro : List (List Int32)} {n d : Nat} {p : xH} {Q : Option Value → xH → Prop} {k : Int32} {ki : Int} {x : Int32} {xi : Int} (hk : k.toInt = ki) (hx : x.toInt = xi)  (k0 : ∀ z : Int32, ∀ p2 : xH, (z = aW (mO p) ki (mA p) x) → (p2 = hMg p (nW (mO p) ki)) → Q (some (.int z)) p2) : hP ro n d (12, 4, 1, 1, k258) 0 (lv_args 0 [.ref 66, .int k, .int x]) [] p Q := by
  subst hk
  subst hx
  refine hp_id (ls := [(0, .ref 66), (1, .int k), (2, .int x)]) ?_
  refine hp_s (pc' := 1) (st' := [.int k]) rfl rfl rfl ?_
  refine hp_s (pc' := 2) (st' := [.int 3, .int k]) rfl rfl rfl ?_
  refine hp_ic (pc' := 5) (t := 10) (a := k.toInt) (b := 3) rfl rfl rfl rfl (by decide) (fun (h1 : k.toInt = 3) => ?_) (fun (h2 : ¬ (k.toInt = 3)) => ?_)
  ·
    refine hp_s (pc' := 11) (st' := [.ref 66]) rfl rfl rfl ?_
    refine hp_s (pc' := 13) (st' := [.int 41, .ref 66]) rfl rfl rfl ?_
    refine hp_cv (r := 66) (o := 12) (kd := 1) (as := [.int 41]) (rest := []) (pc' := 16) rfl rfl rfl rfl rfl rfl rfl rfl rfl (fun d1 => ?_)
    refine s_begins (xi := 41) (by decide) ?_
    intro p1 h3
    refine hp_id (st := []) ?_
    refine hp_s (pc' := 17) (st' := [.ref 66]) rfl rfl rfl ?_
    refine hp_s (pc' := 18) (st' := [.int 2, .ref 66]) rfl rfl rfl ?_
    refine hp_s (pc' := 19) (st' := [.int x, .int 2, .ref 66]) rfl rfl rfl ?_
    refine hp_s (pc' := 20) (st' := [.int 1, .int x, .int 2, .ref 66]) rfl rfl rfl ?_
    refine hp_z (pc' := 21) (e := x + 1) (st' := [.int 2, .ref 66]) rfl rfl rfl ?_
    intro z1 hz1
    have ez1 := i_add hz1 (show x.toInt = x.toInt from rfl) (show (1 : Int32).toInt = 1 from by decide)
    refine hp_cv (r := 66) (o := 12) (kd := 1) (as := [.int 2, .int z1]) (rest := []) (pc' := 24) rfl rfl rfl rfl rfl rfl rfl rfl rfl (fun d2 => ?_)
    refine s_as1_2 (xi := z1.toInt) rfl ?_
    intro y1 p2 h4 h5
    refine hp_id (st := [.int y1]) ?_
    refine hp_ri rfl rfl ?_
    first | (exact k0 _ _ (by (subst_vars; simp only [mA_i, mO_i, mA_1, mA_g, mO_1, mO_g, hMg_s, hMg_app, hMg_1, List.cons_append, List.nil_append]; first | done | (have fa := aW_a (k := k.toInt) (a := mA p) (x := x) (o := mO p) (by omega); first | rw [← fa.1] | rw [← fa.2]) | (have fa := aW_b (k := k.toInt) (a := mA p) (x := x) (o := mO p) (by omega); first | rw [← fa.1] | rw [← fa.2]) | (have fa := aW_d (k := k.toInt) (a := mA p) (x := x) (o := mO p) (by omega); first | rw [← fa.1] | rw [← fa.2]) | (have fa := aW_c (k := k.toInt) (a := mA p) (x := x) (o := mO p) (by omega) (by omega) (by omega); first | rw [← fa.1] | rw [← fa.2]) | rfl)) (by (subst_vars; simp only [mA_i, mO_i, mA_1, mA_g, mO_1, mO_g, hMg_s, hMg_app, hMg_1, List.cons_append, List.nil_append]; first | done | (have fa := aW_a (k := k.toInt) (a := mA p) (x := x) (o := mO p) (by omega); first | rw [← fa.1] | rw [← fa.2]) | (have fa := aW_b (k := k.toInt) (a := mA p) (x := x) (o := mO p) (by omega); first | rw [← fa.1] | rw [← fa.2]) | (have fa := aW_d (k := k.toInt) (a := mA p) (x := x) (o := mO p) (by omega); first | rw [← fa.1] | rw [← fa.2]) | (have fa := aW_c (k := k.toInt) (a := mA p) (x := x) (o := mO p) (by omega) (by omega) (by omega); first | rw [← fa.1] | rw [← fa.2]) | rfl))) | (exfalso; omega)
  ·
    refine hp_s (pc' := 6) (st' := [.int k]) rfl rfl rfl ?_
    refine hp_s (pc' := 7) (st' := [.int 5, .int k]) rfl rfl rfl ?_
    refine hp_ic (pc' := 10) (t := 25) (a := k.toInt) (b := 5) rfl rfl rfl rfl (by decide) (fun (h6 : k.toInt ≠ 5) => ?_) (fun (h7 : ¬ (k.toInt ≠ 5)) => ?_)
    ·
      refine hp_s (pc' := 26) (st' := [.int k]) rfl rfl rfl ?_
      refine hp_s (pc' := 27) (st' := [.int 2, .int k]) rfl rfl rfl ?_
      refine hp_ic (pc' := 30) (t := 44) (a := k.toInt) (b := 2) rfl rfl rfl rfl (by decide) (fun (h8 : k.toInt ≠ 2) => ?_) (fun (h9 : ¬ (k.toInt ≠ 2)) => ?_)
      ·
        refine hp_s (pc' := 45) (st' := [.int k]) rfl rfl rfl ?_
        refine hp_s (pc' := 47) (st' := [.int 7, .int k]) rfl rfl rfl ?_
        refine hp_ic (pc' := 50) (t := 75) (a := k.toInt) (b := 7) rfl rfl rfl rfl (by decide) (fun (h10 : k.toInt ≠ 7) => ?_) (fun (h11 : ¬ (k.toInt ≠ 7)) => ?_)
        ·
          refine hp_s (pc' := 76) (st' := [.ref 66]) rfl rfl rfl ?_
          refine hp_s (pc' := 78) (st' := [.int 10, .ref 66]) rfl rfl rfl ?_
          refine hp_cv (r := 66) (o := 12) (kd := 1) (as := [.int 10]) (rest := []) (pc' := 81) rfl rfl rfl rfl rfl rfl rfl rfl rfl (fun d3 => ?_)
          refine s_begins (xi := 10) (by decide) ?_
          intro p3 h12
          refine hp_id (st := []) ?_
          refine hp_s (pc' := 82) (st' := [.ref 66]) rfl rfl rfl ?_
          refine hp_s (pc' := 83) (st' := [.ref 66, .ref 66]) rfl rfl rfl ?_
          refine hp_get (k := 48) (pc' := 86) (v := (rI p3 66 48)) rfl rfl rfl rfl rfl rfl ?_
          refine hp_s (pc' := 87) (st' := [.int x, .int (rI p3 66 48), .ref 66]) rfl rfl rfl ?_
          refine hp_cv (r := 66) (o := 12) (kd := 1) (as := [.int (rI p3 66 48), .int x]) (rest := []) (pc' := 90) rfl rfl rfl rfl rfl rfl rfl rfl rfl (fun d4 => ?_)
          refine s_as0 (ki := (rI p3 66 48).toInt) rfl (xi := x.toInt) rfl ?_
          intro y2 p4 h13 h14
          refine hp_id (st := [.int y2]) ?_
          refine hp_s (pc' := 91) (st' := [.int 2, .int y2]) rfl rfl rfl ?_
          refine hp_z (pc' := 92) (e := y2 * 2) (st' := []) rfl rfl rfl ?_
          intro z2 hz2
          have ez2 := i_mul hz2 (show y2.toInt = y2.toInt from rfl) (show (2 : Int32).toInt = 2 from by decide)
          refine hp_ri rfl rfl ?_
          first | (exact k0 _ _ (by (subst_vars; simp only [mA_i, mO_i, mA_1, mA_g, mO_1, mO_g, hMg_s, hMg_app, hMg_1, List.cons_append, List.nil_append]; first | done | (have fa := aW_a (k := k.toInt) (a := mA p) (x := x) (o := mO p) (by omega); first | rw [← fa.1] | rw [← fa.2]) | (have fa := aW_b (k := k.toInt) (a := mA p) (x := x) (o := mO p) (by omega); first | rw [← fa.1] | rw [← fa.2]) | (have fa := aW_d (k := k.toInt) (a := mA p) (x := x) (o := mO p) (by omega); first | rw [← fa.1] | rw [← fa.2]) | (have fa := aW_c (k := k.toInt) (a := mA p) (x := x) (o := mO p) (by omega) (by omega) (by omega); first | rw [← fa.1] | rw [← fa.2]) | rfl)) (by (subst_vars; simp only [mA_i, mO_i, mA_1, mA_g, mO_1, mO_g, hMg_s, hMg_app, hMg_1, List.cons_append, List.nil_append]; first | done | (have fa := aW_a (k := k.toInt) (a := mA p) (x := x) (o := mO p) (by omega); first | rw [← fa.1] | rw [← fa.2]) | (have fa := aW_b (k := k.toInt) (a := mA p) (x := x) (o := mO p) (by omega); first | rw [← fa.1] | rw [← fa.2]) | (have fa := aW_d (k := k.toInt) (a := mA p) (x := x) (o := mO p) (by omega); first | rw [← fa.1] | rw [← fa.2]) | (have fa := aW_c (k := k.toInt) (a := mA p) (x := x) (o := mO p) (by omega) (by omega) (by omega); first | rw [← fa.1] | rw [← fa.2]) | rfl))) | (exfalso; omega)
        ·
          refine hp_s (pc' := 51) (st' := [.ref 66]) rfl rfl rfl ?_
          refine hp_s (pc' := 53) (st' := [.int 80, .ref 66]) rfl rfl rfl ?_
          refine hp_cv (r := 66) (o := 12) (kd := 1) (as := [.int 80]) (rest := []) (pc' := 56) rfl rfl rfl rfl rfl rfl rfl rfl rfl (fun d5 => ?_)
          refine s_begins (xi := 80) (by decide) ?_
          intro p5 h15
          refine hp_id (st := []) ?_
          refine hp_s (pc' := 57) (st' := [.ref 66]) rfl rfl rfl ?_
          refine hp_s (pc' := 58) (st' := [.int 4, .ref 66]) rfl rfl rfl ?_
          refine hp_s (pc' := 59) (st' := [.int x, .int 4, .ref 66]) rfl rfl rfl ?_
          refine hp_cv (r := 66) (o := 12) (kd := 1) (as := [.int 4, .int x]) (rest := []) (pc' := 62) rfl rfl rfl rfl rfl rfl rfl rfl rfl (fun d6 => ?_)
          refine s_as1_4 (xi := x.toInt) rfl ?_
          intro y3 p6 h16 h17
          refine hp_id (st := [.int y3]) ?_
          refine hp_s (pc' := 63) (ls' := [(3, .int y3), (0, .ref 66), (1, .int k), (2, .int x)]) (st' := []) rfl rfl rfl ?_
          refine hp_s (pc' := 64) (st' := [.int y3]) rfl rfl rfl ?_
          refine hp_s (pc' := 65) (st' := [.ref 66, .int y3]) rfl rfl rfl ?_
          refine hp_s (pc' := 66) (st' := [.ref 66, .ref 66, .int y3]) rfl rfl rfl ?_
          refine hp_get (k := 48) (pc' := 69) (v := (rI p6 66 48)) rfl rfl rfl rfl rfl rfl ?_
          refine hp_s (pc' := 70) (st' := [.int 2, .int (rI p6 66 48), .ref 66, .int y3]) rfl rfl rfl ?_
          refine hp_cv (r := 66) (o := 12) (kd := 1) (as := [.int (rI p6 66 48), .int 2]) (rest := [.int y3]) (pc' := 73) rfl rfl rfl rfl rfl rfl rfl rfl rfl (fun d7 => ?_)
          refine s_as2 (ki := (rI p6 66 48).toInt) rfl (xi := 2) (by decide) ?_
          intro y4 p7 h18 h19
          refine hp_id (st := [.int y4, .int y3]) ?_
          refine hp_z (pc' := 74) (e := y3 + y4) (st' := []) rfl rfl rfl ?_
          intro z3 hz3
          have ez3 := i_add hz3 (show y3.toInt = y3.toInt from rfl) (show y4.toInt = y4.toInt from rfl)
          refine hp_ri rfl rfl ?_
          first | (exact k0 _ _ (by (subst_vars; simp only [mA_i, mO_i, mA_1, mA_g, mO_1, mO_g, hMg_s, hMg_app, hMg_1, List.cons_append, List.nil_append]; first | done | (have fa := aW_a (k := k.toInt) (a := mA p) (x := x) (o := mO p) (by omega); first | rw [← fa.1] | rw [← fa.2]) | (have fa := aW_b (k := k.toInt) (a := mA p) (x := x) (o := mO p) (by omega); first | rw [← fa.1] | rw [← fa.2]) | (have fa := aW_d (k := k.toInt) (a := mA p) (x := x) (o := mO p) (by omega); first | rw [← fa.1] | rw [← fa.2]) | (have fa := aW_c (k := k.toInt) (a := mA p) (x := x) (o := mO p) (by omega) (by omega) (by omega); first | rw [← fa.1] | rw [← fa.2]) | rfl)) (by (subst_vars; simp only [mA_i, mO_i, mA_1, mA_g, mO_1, mO_g, hMg_s, hMg_app, hMg_1, List.cons_append, List.nil_append]; first | done | (have fa := aW_a (k := k.toInt) (a := mA p) (x := x) (o := mO p) (by omega); first | rw [← fa.1] | rw [← fa.2]) | (have fa := aW_b (k := k.toInt) (a := mA p) (x := x) (o := mO p) (by omega); first | rw [← fa.1] | rw [← fa.2]) | (have fa := aW_d (k := k.toInt) (a := mA p) (x := x) (o := mO p) (by omega); first | rw [← fa.1] | rw [← fa.2]) | (have fa := aW_c (k := k.toInt) (a := mA p) (x := x) (o := mO p) (by omega) (by omega) (by omega); first | rw [← fa.1] | rw [← fa.2]) | rfl))) | (exfalso; omega)
      ·
        refine hp_s (pc' := 31) (st' := [.ref 66]) rfl rfl rfl ?_
        refine hp_s (pc' := 33) (st' := [.int 30, .ref 66]) rfl rfl rfl ?_
        refine hp_cv (r := 66) (o := 12) (kd := 1) (as := [.int 30]) (rest := []) (pc' := 36) rfl rfl rfl rfl rfl rfl rfl rfl rfl (fun d8 => ?_)
        refine s_begins (xi := 30) (by decide) ?_
        intro p8 h20
        refine hp_id (st := []) ?_
        refine hp_s (pc' := 37) (st' := [.ref 66]) rfl rfl rfl ?_
        refine hp_s (pc' := 38) (st' := [.int 0, .ref 66]) rfl rfl rfl ?_
        refine hp_s (pc' := 39) (st' := [.int x, .int 0, .ref 66]) rfl rfl rfl ?_
        refine hp_cv (r := 66) (o := 12) (kd := 1) (as := [.int 0, .int x]) (rest := []) (pc' := 42) rfl rfl rfl rfl rfl rfl rfl rfl rfl (fun d9 => ?_)
        refine s_as1_0 (xi := x.toInt) rfl ?_
        intro y5 p9 h21 h22
        refine hp_id (st := [.int y5]) ?_
        refine hp_z (pc' := 43) (e := -y5) (st' := []) rfl rfl rfl ?_
        intro z4 hz4
        have ez4 := i_neg hz4 (show y5.toInt = y5.toInt from rfl)
        refine hp_ri rfl rfl ?_
        first | (exact k0 _ _ (by (subst_vars; simp only [mA_i, mO_i, mA_1, mA_g, mO_1, mO_g, hMg_s, hMg_app, hMg_1, List.cons_append, List.nil_append]; first | done | (have fa := aW_a (k := k.toInt) (a := mA p) (x := x) (o := mO p) (by omega); first | rw [← fa.1] | rw [← fa.2]) | (have fa := aW_b (k := k.toInt) (a := mA p) (x := x) (o := mO p) (by omega); first | rw [← fa.1] | rw [← fa.2]) | (have fa := aW_d (k := k.toInt) (a := mA p) (x := x) (o := mO p) (by omega); first | rw [← fa.1] | rw [← fa.2]) | (have fa := aW_c (k := k.toInt) (a := mA p) (x := x) (o := mO p) (by omega) (by omega) (by omega); first | rw [← fa.1] | rw [← fa.2]) | rfl)) (by (subst_vars; simp only [mA_i, mO_i, mA_1, mA_g, mO_1, mO_g, hMg_s, hMg_app, hMg_1, List.cons_append, List.nil_append]; first | done | (have fa := aW_a (k := k.toInt) (a := mA p) (x := x) (o := mO p) (by omega); first | rw [← fa.1] | rw [← fa.2]) | (have fa := aW_b (k := k.toInt) (a := mA p) (x := x) (o := mO p) (by omega); first | rw [← fa.1] | rw [← fa.2]) | (have fa := aW_d (k := k.toInt) (a := mA p) (x := x) (o := mO p) (by omega); first | rw [← fa.1] | rw [← fa.2]) | (have fa := aW_c (k := k.toInt) (a := mA p) (x := x) (o := mO p) (by omega) (by omega) (by omega); first | rw [← fa.1] | rw [← fa.2]) | rfl))) | (exfalso; omega)
    ·
      refine hp_s (pc' := 11) (st' := [.ref 66]) rfl rfl rfl ?_
      refine hp_s (pc' := 13) (st' := [.int 41, .ref 66]) rfl rfl rfl ?_
      refine hp_cv (r := 66) (o := 12) (kd := 1) (as := [.int 41]) (rest := []) (pc' := 16) rfl rfl rfl rfl rfl rfl rfl rfl rfl (fun d10 => ?_)
      refine s_begins (xi := 41) (by decide) ?_
      intro p10 h23
      refine hp_id (st := []) ?_
      refine hp_s (pc' := 17) (st' := [.ref 66]) rfl rfl rfl ?_
      refine hp_s (pc' := 18) (st' := [.int 2, .ref 66]) rfl rfl rfl ?_
      refine hp_s (pc' := 19) (st' := [.int x, .int 2, .ref 66]) rfl rfl rfl ?_
      refine hp_s (pc' := 20) (st' := [.int 1, .int x, .int 2, .ref 66]) rfl rfl rfl ?_
      refine hp_z (pc' := 21) (e := x + 1) (st' := [.int 2, .ref 66]) rfl rfl rfl ?_
      intro z5 hz5
      have ez5 := i_add hz5 (show x.toInt = x.toInt from rfl) (show (1 : Int32).toInt = 1 from by decide)
      refine hp_cv (r := 66) (o := 12) (kd := 1) (as := [.int 2, .int z5]) (rest := []) (pc' := 24) rfl rfl rfl rfl rfl rfl rfl rfl rfl (fun d11 => ?_)
      refine s_as1_2 (xi := z5.toInt) rfl ?_
      intro y6 p11 h24 h25
      refine hp_id (st := [.int y6]) ?_
      refine hp_ri rfl rfl ?_
      first | (exact k0 _ _ (by (subst_vars; simp only [mA_i, mO_i, mA_1, mA_g, mO_1, mO_g, hMg_s, hMg_app, hMg_1, List.cons_append, List.nil_append]; first | done | (have fa := aW_a (k := k.toInt) (a := mA p) (x := x) (o := mO p) (by omega); first | rw [← fa.1] | rw [← fa.2]) | (have fa := aW_b (k := k.toInt) (a := mA p) (x := x) (o := mO p) (by omega); first | rw [← fa.1] | rw [← fa.2]) | (have fa := aW_d (k := k.toInt) (a := mA p) (x := x) (o := mO p) (by omega); first | rw [← fa.1] | rw [← fa.2]) | (have fa := aW_c (k := k.toInt) (a := mA p) (x := x) (o := mO p) (by omega) (by omega) (by omega); first | rw [← fa.1] | rw [← fa.2]) | rfl)) (by (subst_vars; simp only [mA_i, mO_i, mA_1, mA_g, mO_1, mO_g, hMg_s, hMg_app, hMg_1, List.cons_append, List.nil_append]; first | done | (have fa := aW_a (k := k.toInt) (a := mA p) (x := x) (o := mO p) (by omega); first | rw [← fa.1] | rw [← fa.2]) | (have fa := aW_b (k := k.toInt) (a := mA p) (x := x) (o := mO p) (by omega); first | rw [← fa.1] | rw [← fa.2]) | (have fa := aW_d (k := k.toInt) (a := mA p) (x := x) (o := mO p) (by omega); first | rw [← fa.1] | rw [← fa.2]) | (have fa := aW_c (k := k.toInt) (a := mA p) (x := x) (o := mO p) (by omega) (by omega) (by omega); first | rw [← fa.1] | rw [← fa.2]) | rfl))) | (exfalso; omega)
theorem s_as3_3 {ro : List (List Int32)} {n d : Nat} {p : xH} {Q : Option Value → xH → Prop} {x : Int32} {xi : Int} (hx : x.toInt = xi)  (k0 : ∀ z : Int32, ∀ p2 : xH, (z = aT (mO p) 3 (mA p) x) → (p2 = hMg p (nT (mO p) 3)) → Q (some (.int z)) p2) : hP ro n d (12, 4, 1, 1, k260) 0 (lv_args 0 [.ref 66, .int 3, .int x]) [] p Q := by
  subst hx
  refine hp_id (ls := [(0, .ref 66), (1, .int 3), (2, .int x)]) ?_
  refine hp_s (pc' := 1) (st' := [.int 3]) rfl rfl rfl ?_
  refine hp_s (pc' := 2) (st' := [.int 5, .int 3]) rfl rfl rfl ?_
  refine hp_go (pc' := 20) rfl rfl rfl ?_
  refine hp_s (pc' := 21) (st' := [.int 3]) rfl rfl rfl ?_
  refine hp_s (pc' := 23) (st' := [.int 7, .int 3]) rfl rfl rfl ?_
  refine hp_go (pc' := 41) rfl rfl rfl ?_
  refine hp_s (pc' := 42) (st' := [.ref 66]) rfl rfl rfl ?_
  refine hp_s (pc' := 43) (st' := [.int 2, .ref 66]) rfl rfl rfl ?_
  refine hp_cv (r := 66) (o := 12) (kd := 1) (as := [.int 2]) (rest := []) (pc' := 46) rfl rfl rfl rfl rfl rfl rfl rfl rfl (fun d1 => ?_)
  refine s_begins (xi := 2) (by decide) ?_
  intro p1 h1
  refine hp_id (st := []) ?_
  refine hp_s (pc' := 47) (st' := [.ref 66]) rfl rfl rfl ?_
  refine hp_s (pc' := 48) (st' := [.ref 66, .ref 66]) rfl rfl rfl ?_
  refine hp_get (k := 48) (pc' := 51) (v := (rI p1 66 48)) rfl rfl rfl rfl rfl rfl ?_
  refine hp_s (pc' := 52) (st' := [.int x, .int (rI p1 66 48), .ref 66]) rfl rfl rfl ?_
  refine hp_cv (r := 66) (o := 12) (kd := 1) (as := [.int (rI p1 66 48), .int x]) (rest := []) (pc' := 55) rfl rfl rfl rfl rfl rfl rfl rfl rfl (fun d2 => ?_)
  refine s_as1 (ki := (rI p1 66 48).toInt) rfl (xi := x.toInt) rfl ?_
  intro y1 p2 h2 h3
  refine hp_id (st := [.int y1]) ?_
  refine hp_s (pc' := 56) (ls' := [(3, .int y1), (0, .ref 66), (1, .int 3), (2, .int x)]) (st' := []) rfl rfl rfl ?_
  refine hp_s (pc' := 57) (st' := [.int y1]) rfl rfl rfl ?_
  refine hp_s (pc' := 58) (st' := [.ref 66, .int y1]) rfl rfl rfl ?_
  refine hp_s (pc' := 59) (st' := [.ref 66, .ref 66, .int y1]) rfl rfl rfl ?_
  refine hp_get (k := 48) (pc' := 62) (v := (rI p2 66 48)) rfl rfl rfl rfl rfl rfl ?_
  refine hp_s (pc' := 63) (st' := [.int 1, .int (rI p2 66 48), .ref 66, .int y1]) rfl rfl rfl ?_
  refine hp_cv (r := 66) (o := 12) (kd := 1) (as := [.int (rI p2 66 48), .int 1]) (rest := [.int y1]) (pc' := 66) rfl rfl rfl rfl rfl rfl rfl rfl rfl (fun d3 => ?_)
  refine s_as2 (ki := (rI p2 66 48).toInt) rfl (xi := 1) (by decide) ?_
  intro y2 p3 h4 h5
  refine hp_id (st := [.int y2, .int y1]) ?_
  refine hp_z (pc' := 67) (e := y1 - y2) (st' := []) rfl rfl rfl ?_
  intro z1 hz1
  have ez1 := i_sub hz1 (show y1.toInt = y1.toInt from rfl) (show y2.toInt = y2.toInt from rfl)
  refine hp_ri rfl rfl ?_
  first | (exact k0 _ _ (by (subst_vars; simp only [mA_i, mO_i, mA_1, mA_g, mO_1, mO_g, hMg_s, hMg_app, hMg_1, List.cons_append, List.nil_append]; first | done | (have fa := aT_a (k := k.toInt) (a := mA p) (x := x) (o := mO p) (by omega); first | rw [← fa.1] | rw [← fa.2]) | (have fa := aT_b (k := k.toInt) (a := mA p) (x := x) (o := mO p) (by omega); first | rw [← fa.1] | rw [← fa.2]) | (have fa := aT_c (k := k.toInt) (a := mA p) (x := x) (o := mO p) (by omega) (by omega); first | rw [← fa.1] | rw [← fa.2]) | rfl)) (by (subst_vars; simp only [mA_i, mO_i, mA_1, mA_g, mO_1, mO_g, hMg_s, hMg_app, hMg_1, List.cons_append, List.nil_append]; first | done | (have fa := aT_a (k := k.toInt) (a := mA p) (x := x) (o := mO p) (by omega); first | rw [← fa.1] | rw [← fa.2]) | (have fa := aT_b (k := k.toInt) (a := mA p) (x := x) (o := mO p) (by omega); first | rw [← fa.1] | rw [← fa.2]) | (have fa := aT_c (k := k.toInt) (a := mA p) (x := x) (o := mO p) (by omega) (by omega); first | rw [← fa.1] | rw [← fa.2]) | rfl))) | (exfalso; omega)
theorem s_as3_4 {ro : List (List Int32)} {n d : Nat} {p : xH} {Q : Option Value → xH → Prop} {x : Int32} {xi : Int} (hx : x.toInt = xi)  (k0 : ∀ z : Int32, ∀ p2 : xH, (z = aT (mO p) 4 (mA p) x) → (p2 = hMg p (nT (mO p) 4)) → Q (some (.int z)) p2) : hP ro n d (12, 4, 1, 1, k260) 0 (lv_args 0 [.ref 66, .int 4, .int x]) [] p Q := by
  subst hx
  refine hp_id (ls := [(0, .ref 66), (1, .int 4), (2, .int x)]) ?_
  refine hp_s (pc' := 1) (st' := [.int 4]) rfl rfl rfl ?_
  refine hp_s (pc' := 2) (st' := [.int 5, .int 4]) rfl rfl rfl ?_
  refine hp_go (pc' := 20) rfl rfl rfl ?_
  refine hp_s (pc' := 21) (st' := [.int 4]) rfl rfl rfl ?_
  refine hp_s (pc' := 23) (st' := [.int 7, .int 4]) rfl rfl rfl ?_
  refine hp_go (pc' := 41) rfl rfl rfl ?_
  refine hp_s (pc' := 42) (st' := [.ref 66]) rfl rfl rfl ?_
  refine hp_s (pc' := 43) (st' := [.int 2, .ref 66]) rfl rfl rfl ?_
  refine hp_cv (r := 66) (o := 12) (kd := 1) (as := [.int 2]) (rest := []) (pc' := 46) rfl rfl rfl rfl rfl rfl rfl rfl rfl (fun d1 => ?_)
  refine s_begins (xi := 2) (by decide) ?_
  intro p1 h1
  refine hp_id (st := []) ?_
  refine hp_s (pc' := 47) (st' := [.ref 66]) rfl rfl rfl ?_
  refine hp_s (pc' := 48) (st' := [.ref 66, .ref 66]) rfl rfl rfl ?_
  refine hp_get (k := 48) (pc' := 51) (v := (rI p1 66 48)) rfl rfl rfl rfl rfl rfl ?_
  refine hp_s (pc' := 52) (st' := [.int x, .int (rI p1 66 48), .ref 66]) rfl rfl rfl ?_
  refine hp_cv (r := 66) (o := 12) (kd := 1) (as := [.int (rI p1 66 48), .int x]) (rest := []) (pc' := 55) rfl rfl rfl rfl rfl rfl rfl rfl rfl (fun d2 => ?_)
  refine s_as1 (ki := (rI p1 66 48).toInt) rfl (xi := x.toInt) rfl ?_
  intro y1 p2 h2 h3
  refine hp_id (st := [.int y1]) ?_
  refine hp_s (pc' := 56) (ls' := [(3, .int y1), (0, .ref 66), (1, .int 4), (2, .int x)]) (st' := []) rfl rfl rfl ?_
  refine hp_s (pc' := 57) (st' := [.int y1]) rfl rfl rfl ?_
  refine hp_s (pc' := 58) (st' := [.ref 66, .int y1]) rfl rfl rfl ?_
  refine hp_s (pc' := 59) (st' := [.ref 66, .ref 66, .int y1]) rfl rfl rfl ?_
  refine hp_get (k := 48) (pc' := 62) (v := (rI p2 66 48)) rfl rfl rfl rfl rfl rfl ?_
  refine hp_s (pc' := 63) (st' := [.int 1, .int (rI p2 66 48), .ref 66, .int y1]) rfl rfl rfl ?_
  refine hp_cv (r := 66) (o := 12) (kd := 1) (as := [.int (rI p2 66 48), .int 1]) (rest := [.int y1]) (pc' := 66) rfl rfl rfl rfl rfl rfl rfl rfl rfl (fun d3 => ?_)
  refine s_as2 (ki := (rI p2 66 48).toInt) rfl (xi := 1) (by decide) ?_
  intro y2 p3 h4 h5
  refine hp_id (st := [.int y2, .int y1]) ?_
  refine hp_z (pc' := 67) (e := y1 - y2) (st' := []) rfl rfl rfl ?_
  intro z1 hz1
  have ez1 := i_sub hz1 (show y1.toInt = y1.toInt from rfl) (show y2.toInt = y2.toInt from rfl)
  refine hp_ri rfl rfl ?_
  first | (exact k0 _ _ (by (subst_vars; simp only [mA_i, mO_i, mA_1, mA_g, mO_1, mO_g, hMg_s, hMg_app, hMg_1, List.cons_append, List.nil_append]; first | done | (have fa := aT_a (k := k.toInt) (a := mA p) (x := x) (o := mO p) (by omega); first | rw [← fa.1] | rw [← fa.2]) | (have fa := aT_b (k := k.toInt) (a := mA p) (x := x) (o := mO p) (by omega); first | rw [← fa.1] | rw [← fa.2]) | (have fa := aT_c (k := k.toInt) (a := mA p) (x := x) (o := mO p) (by omega) (by omega); first | rw [← fa.1] | rw [← fa.2]) | rfl)) (by (subst_vars; simp only [mA_i, mO_i, mA_1, mA_g, mO_1, mO_g, hMg_s, hMg_app, hMg_1, List.cons_append, List.nil_append]; first | done | (have fa := aT_a (k := k.toInt) (a := mA p) (x := x) (o := mO p) (by omega); first | rw [← fa.1] | rw [← fa.2]) | (have fa := aT_b (k := k.toInt) (a := mA p) (x := x) (o := mO p) (by omega); first | rw [← fa.1] | rw [← fa.2]) | (have fa := aT_c (k := k.toInt) (a := mA p) (x := x) (o := mO p) (by omega) (by omega); first | rw [← fa.1] | rw [← fa.2]) | rfl))) | (exfalso; omega)
theorem s_as3 {ro : List (List Int32)} {n d : Nat} {p : xH} {Q : Option Value → xH → Prop} {k : Int32} {ki : Int} {x : Int32} {xi : Int} (hk : k.toInt = ki) (hx : x.toInt = xi)  (k0 : ∀ z : Int32, ∀ p2 : xH, (z = aT (mO p) ki (mA p) x) → (p2 = hMg p (nT (mO p) ki)) → Q (some (.int z)) p2) : hP ro n d (12, 4, 1, 1, k260) 0 (lv_args 0 [.ref 66, .int k, .int x]) [] p Q := by
  subst hk
  subst hx
  refine hp_id (ls := [(0, .ref 66), (1, .int k), (2, .int x)]) ?_
  refine hp_s (pc' := 1) (st' := [.int k]) rfl rfl rfl ?_
  refine hp_s (pc' := 2) (st' := [.int 5, .int k]) rfl rfl rfl ?_
  refine hp_ic (pc' := 5) (t := 20) (a := k.toInt) (b := 5) rfl rfl rfl rfl (by decide) (fun (h1 : k.toInt ≠ 5) => ?_) (fun (h2 : ¬ (k.toInt ≠ 5)) => ?_)
  ·
    refine hp_s (pc' := 21) (st' := [.int k]) rfl rfl rfl ?_
    refine hp_s (pc' := 23) (st' := [.int 7, .int k]) rfl rfl rfl ?_
    refine hp_ic (pc' := 26) (t := 41) (a := k.toInt) (b := 7) rfl rfl rfl rfl (by decide) (fun (h3 : k.toInt ≠ 7) => ?_) (fun (h4 : ¬ (k.toInt ≠ 7)) => ?_)
    ·
      refine hp_s (pc' := 42) (st' := [.ref 66]) rfl rfl rfl ?_
      refine hp_s (pc' := 43) (st' := [.int 2, .ref 66]) rfl rfl rfl ?_
      refine hp_cv (r := 66) (o := 12) (kd := 1) (as := [.int 2]) (rest := []) (pc' := 46) rfl rfl rfl rfl rfl rfl rfl rfl rfl (fun d1 => ?_)
      refine s_begins (xi := 2) (by decide) ?_
      intro p1 h5
      refine hp_id (st := []) ?_
      refine hp_s (pc' := 47) (st' := [.ref 66]) rfl rfl rfl ?_
      refine hp_s (pc' := 48) (st' := [.ref 66, .ref 66]) rfl rfl rfl ?_
      refine hp_get (k := 48) (pc' := 51) (v := (rI p1 66 48)) rfl rfl rfl rfl rfl rfl ?_
      refine hp_s (pc' := 52) (st' := [.int x, .int (rI p1 66 48), .ref 66]) rfl rfl rfl ?_
      refine hp_cv (r := 66) (o := 12) (kd := 1) (as := [.int (rI p1 66 48), .int x]) (rest := []) (pc' := 55) rfl rfl rfl rfl rfl rfl rfl rfl rfl (fun d2 => ?_)
      refine s_as1 (ki := (rI p1 66 48).toInt) rfl (xi := x.toInt) rfl ?_
      intro y1 p2 h6 h7
      refine hp_id (st := [.int y1]) ?_
      refine hp_s (pc' := 56) (ls' := [(3, .int y1), (0, .ref 66), (1, .int k), (2, .int x)]) (st' := []) rfl rfl rfl ?_
      refine hp_s (pc' := 57) (st' := [.int y1]) rfl rfl rfl ?_
      refine hp_s (pc' := 58) (st' := [.ref 66, .int y1]) rfl rfl rfl ?_
      refine hp_s (pc' := 59) (st' := [.ref 66, .ref 66, .int y1]) rfl rfl rfl ?_
      refine hp_get (k := 48) (pc' := 62) (v := (rI p2 66 48)) rfl rfl rfl rfl rfl rfl ?_
      refine hp_s (pc' := 63) (st' := [.int 1, .int (rI p2 66 48), .ref 66, .int y1]) rfl rfl rfl ?_
      refine hp_cv (r := 66) (o := 12) (kd := 1) (as := [.int (rI p2 66 48), .int 1]) (rest := [.int y1]) (pc' := 66) rfl rfl rfl rfl rfl rfl rfl rfl rfl (fun d3 => ?_)
      refine s_as2 (ki := (rI p2 66 48).toInt) rfl (xi := 1) (by decide) ?_
      intro y2 p3 h8 h9
      refine hp_id (st := [.int y2, .int y1]) ?_
      refine hp_z (pc' := 67) (e := y1 - y2) (st' := []) rfl rfl rfl ?_
      intro z1 hz1
      have ez1 := i_sub hz1 (show y1.toInt = y1.toInt from rfl) (show y2.toInt = y2.toInt from rfl)
      refine hp_ri rfl rfl ?_
      first | (exact k0 _ _ (by (subst_vars; simp only [mA_i, mO_i, mA_1, mA_g, mO_1, mO_g, hMg_s, hMg_app, hMg_1, List.cons_append, List.nil_append]; first | done | (have fa := aT_a (k := k.toInt) (a := mA p) (x := x) (o := mO p) (by omega); first | rw [← fa.1] | rw [← fa.2]) | (have fa := aT_b (k := k.toInt) (a := mA p) (x := x) (o := mO p) (by omega); first | rw [← fa.1] | rw [← fa.2]) | (have fa := aT_c (k := k.toInt) (a := mA p) (x := x) (o := mO p) (by omega) (by omega); first | rw [← fa.1] | rw [← fa.2]) | rfl)) (by (subst_vars; simp only [mA_i, mO_i, mA_1, mA_g, mO_1, mO_g, hMg_s, hMg_app, hMg_1, List.cons_append, List.nil_append]; first | done | (have fa := aT_a (k := k.toInt) (a := mA p) (x := x) (o := mO p) (by omega); first | rw [← fa.1] | rw [← fa.2]) | (have fa := aT_b (k := k.toInt) (a := mA p) (x := x) (o := mO p) (by omega); first | rw [← fa.1] | rw [← fa.2]) | (have fa := aT_c (k := k.toInt) (a := mA p) (x := x) (o := mO p) (by omega) (by omega); first | rw [← fa.1] | rw [← fa.2]) | rfl))) | (exfalso; omega)
    ·
      refine hp_s (pc' := 27) (st' := [.ref 66]) rfl rfl rfl ?_
      refine hp_s (pc' := 29) (st' := [.int 81, .ref 66]) rfl rfl rfl ?_
      refine hp_cv (r := 66) (o := 12) (kd := 1) (as := [.int 81]) (rest := []) (pc' := 32) rfl rfl rfl rfl rfl rfl rfl rfl rfl (fun d4 => ?_)
      refine s_begins (xi := 81) (by decide) ?_
      intro p4 h10
      refine hp_id (st := []) ?_
      refine hp_s (pc' := 33) (st' := [.ref 66]) rfl rfl rfl ?_
      refine hp_s (pc' := 34) (st' := [.int 4, .ref 66]) rfl rfl rfl ?_
      refine hp_s (pc' := 35) (st' := [.int x, .int 4, .ref 66]) rfl rfl rfl ?_
      refine hp_cv (r := 66) (o := 12) (kd := 1) (as := [.int 4, .int x]) (rest := []) (pc' := 38) rfl rfl rfl rfl rfl rfl rfl rfl rfl (fun d5 => ?_)
      refine s_as3_4 (xi := x.toInt) rfl ?_
      intro y3 p5 h11 h12
      refine hp_id (st := [.int y3]) ?_
      refine hp_s (pc' := 39) (st' := [.int 1, .int y3]) rfl rfl rfl ?_
      refine hp_z (pc' := 40) (e := y3 - 1) (st' := []) rfl rfl rfl ?_
      intro z2 hz2
      have ez2 := i_sub hz2 (show y3.toInt = y3.toInt from rfl) (show (1 : Int32).toInt = 1 from by decide)
      refine hp_ri rfl rfl ?_
      first | (exact k0 _ _ (by (subst_vars; simp only [mA_i, mO_i, mA_1, mA_g, mO_1, mO_g, hMg_s, hMg_app, hMg_1, List.cons_append, List.nil_append]; first | done | (have fa := aT_a (k := k.toInt) (a := mA p) (x := x) (o := mO p) (by omega); first | rw [← fa.1] | rw [← fa.2]) | (have fa := aT_b (k := k.toInt) (a := mA p) (x := x) (o := mO p) (by omega); first | rw [← fa.1] | rw [← fa.2]) | (have fa := aT_c (k := k.toInt) (a := mA p) (x := x) (o := mO p) (by omega) (by omega); first | rw [← fa.1] | rw [← fa.2]) | rfl)) (by (subst_vars; simp only [mA_i, mO_i, mA_1, mA_g, mO_1, mO_g, hMg_s, hMg_app, hMg_1, List.cons_append, List.nil_append]; first | done | (have fa := aT_a (k := k.toInt) (a := mA p) (x := x) (o := mO p) (by omega); first | rw [← fa.1] | rw [← fa.2]) | (have fa := aT_b (k := k.toInt) (a := mA p) (x := x) (o := mO p) (by omega); first | rw [← fa.1] | rw [← fa.2]) | (have fa := aT_c (k := k.toInt) (a := mA p) (x := x) (o := mO p) (by omega) (by omega); first | rw [← fa.1] | rw [← fa.2]) | rfl))) | (exfalso; omega)
  ·
    refine hp_s (pc' := 6) (st' := [.ref 66]) rfl rfl rfl ?_
    refine hp_s (pc' := 8) (st' := [.int 60, .ref 66]) rfl rfl rfl ?_
    refine hp_cv (r := 66) (o := 12) (kd := 1) (as := [.int 60]) (rest := []) (pc' := 11) rfl rfl rfl rfl rfl rfl rfl rfl rfl (fun d6 => ?_)
    refine s_begins (xi := 60) (by decide) ?_
    intro p6 h13
    refine hp_id (st := []) ?_
    refine hp_s (pc' := 12) (st' := [.ref 66]) rfl rfl rfl ?_
    refine hp_s (pc' := 13) (st' := [.int 3, .ref 66]) rfl rfl rfl ?_
    refine hp_s (pc' := 14) (st' := [.int x, .int 3, .ref 66]) rfl rfl rfl ?_
    refine hp_cv (r := 66) (o := 12) (kd := 1) (as := [.int 3, .int x]) (rest := []) (pc' := 17) rfl rfl rfl rfl rfl rfl rfl rfl rfl (fun d7 => ?_)
    refine s_as3_3 (xi := x.toInt) rfl ?_
    intro y4 p7 h14 h15
    refine hp_id (st := [.int y4]) ?_
    refine hp_s (pc' := 18) (st' := [.int 5, .int y4]) rfl rfl rfl ?_
    refine hp_z (pc' := 19) (e := y4 ^^^ 5) (st' := []) rfl rfl rfl ?_
    intro z3 hz3
    refine hp_ri rfl rfl ?_
    first | (exact k0 _ _ (by (subst_vars; simp only [mA_i, mO_i, mA_1, mA_g, mO_1, mO_g, hMg_s, hMg_app, hMg_1, List.cons_append, List.nil_append]; first | done | (have fa := aT_a (k := k.toInt) (a := mA p) (x := x) (o := mO p) (by omega); first | rw [← fa.1] | rw [← fa.2]) | (have fa := aT_b (k := k.toInt) (a := mA p) (x := x) (o := mO p) (by omega); first | rw [← fa.1] | rw [← fa.2]) | (have fa := aT_c (k := k.toInt) (a := mA p) (x := x) (o := mO p) (by omega) (by omega); first | rw [← fa.1] | rw [← fa.2]) | rfl)) (by (subst_vars; simp only [mA_i, mO_i, mA_1, mA_g, mO_1, mO_g, hMg_s, hMg_app, hMg_1, List.cons_append, List.nil_append]; first | done | (have fa := aT_a (k := k.toInt) (a := mA p) (x := x) (o := mO p) (by omega); first | rw [← fa.1] | rw [← fa.2]) | (have fa := aT_b (k := k.toInt) (a := mA p) (x := x) (o := mO p) (by omega); first | rw [← fa.1] | rw [← fa.2]) | (have fa := aT_c (k := k.toInt) (a := mA p) (x := x) (o := mO p) (by omega) (by omega); first | rw [← fa.1] | rw [← fa.2]) | rfl))) | (exfalso; omega)
