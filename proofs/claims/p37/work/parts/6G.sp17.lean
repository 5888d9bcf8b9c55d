/-! contracts of methods, walked -/
theorem s_begin0 {ro : List (List Int32)} {n d : Nat} {p : xH} {Q : Option Value → xH → Prop} {t : Int32} {ti : Int} {x : Int32} {xi : Int} (hro : jro ro) (ht : t.toInt = ti) (hx : x.toInt = xi) (pre0 : hKi p) (k0 : ∀ p2 : xH, p2 = (wV p 57 3 (.int 0)) → (¬ (0 ≤ ti ∧ ti < (rI p 57 1).toInt)) → Q (some (.int (0))) p2) (k1 : ∀ z : Int32, ∀ p2 : xH, (0 ≤ ti) → (ti < (rI p 57 1).toInt) → (z = aL (gO (wV (wV p 57 3 (.int 0)) 57 4 (.int t))) (gA (wV (wV p 57 3 (.int 0)) 57 4 (.int t))) x) → (p2 = hBg (wV (wV p 57 3 (.int 0)) 57 4 (.int t)) (nL (gO (wV (wV p 57 3 (.int 0)) 57 4 (.int t))))) → Q (some (.int z)) p2) : hP ro n d (9, 4, 1, 1, k113) 0 (lv_args 0 [.ref 57, .int t, .int 0, .int x]) [] p Q := by
  subst ht
  subst hx
  refine hp_id (ls := [(0, .ref 57), (1, .int t), (2, .int 0), (3, .int x)]) ?_
  refine hp_s (pc' := 1) (st' := [.ref 57]) rfl rfl rfl ?_
  refine hp_s (pc' := 2) (st' := [.int 0, .ref 57]) rfl rfl rfl ?_
  refine hp_put (k := 3) (pc' := 5) rfl rfl rfl rfl rfl ?_
  intro p1 wp1 ep1
  refine hp_s (pc' := 6) (st' := [.ref 57]) rfl rfl rfl ?_
  refine hp_s (pc' := 7) (st' := [.int t, .ref 57]) rfl rfl rfl ?_
  have f57 : (rI p1 57 1).toInt = (rI p 57 1).toInt := by subst_vars; rw [rI_ne (fun _ => by decide)]
  refine hp_cv (r := 57) (o := 9) (kd := 1) (as := [.int t]) (rest := []) (pc' := 10) rfl rfl rfl rfl rfl rfl rfl rfl rfl (fun d1 => ?_)
  refine s_hasT (xi := t.toInt) rfl ?_ ?_
  ·
    intro h1 h2
    refine hp_id (st := [.int 1]) ?_
    refine hp_go (pc' := 13) rfl rfl rfl ?_
    refine hp_s (pc' := 14) (st' := [.int 0]) rfl rfl rfl ?_
    refine hp_go (pc' := 17) rfl rfl rfl ?_
    refine hp_s (pc' := 18) (st' := [.int 0]) rfl rfl rfl ?_
    refine hp_s (pc' := 19) (st' := [.int 4, .int 0]) rfl rfl rfl ?_
    refine hp_go (pc' := 24) rfl rfl rfl ?_
    refine hp_s (pc' := 25) (st' := [.ref 57]) rfl rfl rfl ?_
    refine hp_s (pc' := 26) (st' := [.int t, .ref 57]) rfl rfl rfl ?_
    refine hp_put (k := 4) (pc' := 29) rfl rfl rfl rfl rfl ?_
    intro p2 wp2 ep2
    refine hp_s (pc' := 30) (st' := [.ref 57]) rfl rfl rfl ?_
    refine hp_s (pc' := 31) (st' := [.int 0, .ref 57]) rfl rfl rfl ?_
    refine hp_s (pc' := 32) (st' := [.int x, .int 0, .ref 57]) rfl rfl rfl ?_
    refine hp_s (pc' := 33) (st' := [.int 0, .int x, .int 0, .ref 57]) rfl rfl rfl ?_
    have hk9 : hKi p2 := by subst_vars; exact hKi_w (by decide) (hKi_w (by decide) pre0)
    refine hp_cv (r := 57) (o := 9) (kd := 1) (as := [.int 0, .int x, .int 0]) (rest := []) (pc' := 36) rfl rfl rfl rfl rfl rfl rfl rfl rfl (fun d2 => ?_)
    refine s_own0 hro (xi := x.toInt) rfl (vi := 0) (by decide) (by first | with_reducible assumption | omega | (rw [eB]; exact hKi_1 pre2) | (subst_vars; with_reducible (repeat (first | assumption | apply hKi_g)))) (by first | with_reducible assumption | omega | (rw [eB]; exact hKi_1 pre2) | (subst_vars; with_reducible (repeat (first | assumption | apply hKi_g)))) (by first | with_reducible assumption | omega | (rw [eB]; exact hKi_1 pre2) | (subst_vars; with_reducible (repeat (first | assumption | apply hKi_g)))) ?_
    intro y1 p3 h3 h4
    refine hp_id (st := [.int y1]) ?_
    refine hp_ri rfl rfl ?_
    first | (exact k0 _ (by subst_vars; rfl) (by first | assumption | omega | (subst_vars; rfl))) | (exact k1 _ _ (by first | assumption | omega | (subst_vars; rfl)) (by first | assumption | omega | (subst_vars; rfl)) (by first | assumption | omega | (subst_vars; rfl)) (by first | assumption | omega | (subst_vars; rfl))) | (exfalso; omega)
  ·
    intro h5
    refine hp_id (st := [.int 0]) ?_
    refine hp_go (pc' := 22) rfl rfl rfl ?_
    refine hp_s (pc' := 23) (st' := [.int 0]) rfl rfl rfl ?_
    refine hp_ri rfl rfl ?_
    first | (exact k0 _ (by subst_vars; rfl) (by first | assumption | omega | (subst_vars; rfl))) | (exact k1 _ _ (by first | assumption | omega | (subst_vars; rfl)) (by first | assumption | omega | (subst_vars; rfl)) (by first | assumption | omega | (subst_vars; rfl)) (by first | assumption | omega | (subst_vars; rfl))) | (exfalso; omega)
theorem X_act0 {ro : List (List Int32)} {n d : Nat} {p : xH} {Q : Option Value → xH → Prop} {t : Int32} {ti : Int} {x : Int32} {xi : Int} (hro : jro ro) (ht : t.toInt = ti) (hx : x.toInt = xi) (pre0 : hKi p) (k0 : ∀ p2 : xH, p2 = (wV p 57 3 (.int 0)) → (¬ (0 ≤ ti ∧ ti < (rI p 57 1).toInt)) → Q (some (.int (0))) p2) (k1 : ∀ z : Int32, ∀ p2 : xH, (0 ≤ ti) → (ti < (rI p 57 1).toInt) → (z = aL (gO (wV (wV p 57 3 (.int 0)) 57 4 (.int t))) (gA (wV (wV p 57 3 (.int 0)) 57 4 (.int t))) x) → (p2 = hBg (wV (wV p 57 3 (.int 0)) 57 4 (.int t)) (nL (gO (wV (wV p 57 3 (.int 0)) 57 4 (.int t))))) → Q (some (.int z)) p2) : hP ro n d (11, 4, 1, 1, k163) 0 (lv_args 0 [.ref 0, .int t, .int 0, .int x]) [] p Q := by
  subst ht
  subst hx
  refine hp_id (ls := [(0, .ref 0), (1, .int t), (2, .int 0), (3, .int x)]) ?_
  refine hp_s (pc' := 1) (st' := [.ref 0]) rfl rfl rfl ?_
  refine hp_getr (k := 12) (w := .ref 57) (pc' := 4) rfl rfl rfl rfl rfl ?_
  refine hp_s (pc' := 5) (st' := [.int t, .ref 57]) rfl rfl rfl ?_
  refine hp_s (pc' := 6) (st' := [.int 0, .int t, .ref 57]) rfl rfl rfl ?_
  refine hp_s (pc' := 7) (st' := [.int x, .int 0, .int t, .ref 57]) rfl rfl rfl ?_
  refine hp_cv (r := 57) (o := 9) (kd := 1) (as := [.int t, .int 0, .int x]) (rest := []) (pc' := 10) rfl rfl rfl rfl rfl rfl rfl rfl rfl (fun d1 => ?_)
  refine s_begin0 hro (ti := t.toInt) rfl (xi := x.toInt) rfl (by first | assumption | omega) ?_ ?_
  ·
    intro p1 ep1 h1
    refine hp_id (st := [.int 0]) ?_
    refine hp_ri rfl rfl ?_
    first | (exact k0 _ (by assumption) (by assumption)) | (exact k1 _ _ (by assumption) (by assumption) (by assumption) (by assumption)) | (exfalso; omega)
  ·
    intro y1 p2 h2 h3 h4 h5
    refine hp_id (st := [.int y1]) ?_
    refine hp_ri rfl rfl ?_
    first | (exact k0 _ (by assumption) (by assumption)) | (exact k1 _ _ (by assumption) (by assumption) (by assumption) (by assumption)) | (exfalso; omega)
theorem s_begin1 {ro : List (List Int32)} {n d : Nat} {p : xH} {Q : Option Value → xH → Prop} {t : Int32} {ti : Int} {x : Int32} {xi : Int} (hro : jro ro) (ht : t.toInt = ti) (hx : x.toInt = xi) (pre0 : hKi p) (k0 : ∀ p2 : xH, p2 = (wV p 57 3 (.int 0)) → (¬ (0 ≤ ti ∧ ti < (rI p 57 1).toInt)) → Q (some (.int (0))) p2) (k1 : ∀ z : Int32, ∀ p2 : xH, (0 ≤ ti) → (ti < (rI p 57 1).toInt) → (z = aW (gO (wV (wV p 57 3 (.int 0)) 57 4 (.int t))) (gO (wV (wV p 57 3 (.int 0)) 57 4 (.int t))) (gA (wV (wV p 57 3 (.int 0)) 57 4 (.int t))) x) → (p2 = hBg (wV (wV p 57 3 (.int 0)) 57 4 (.int t)) (nW (gO (wV (wV p 57 3 (.int 0)) 57 4 (.int t))) (gO (wV (wV p 57 3 (.int 0)) 57 4 (.int t))))) → Q (some (.int z)) p2) : hP ro n d (9, 4, 1, 1, k113) 0 (lv_args 0 [.ref 57, .int t, .int 1, .int x]) [] p Q := by
  subst ht
  subst hx
  refine hp_id (ls := [(0, .ref 57), (1, .int t), (2, .int 1), (3, .int x)]) ?_
  refine hp_s (pc' := 1) (st' := [.ref 57]) rfl rfl rfl ?_
  refine hp_s (pc' := 2) (st' := [.int 0, .ref 57]) rfl rfl rfl ?_
  refine hp_put (k := 3) (pc' := 5) rfl rfl rfl rfl rfl ?_
  intro p1 wp1 ep1
  refine hp_s (pc' := 6) (st' := [.ref 57]) rfl rfl rfl ?_
  refine hp_s (pc' := 7) (st' := [.int t, .ref 57]) rfl rfl rfl ?_
  have f57 : (rI p1 57 1).toInt = (rI p 57 1).toInt := by subst_vars; rw [rI_ne (fun _ => by decide)]
  refine hp_cv (r := 57) (o := 9) (kd := 1) (as := [.int t]) (rest := []) (pc' := 10) rfl rfl rfl rfl rfl rfl rfl rfl rfl (fun d1 => ?_)
  refine s_hasT (xi := t.toInt) rfl ?_ ?_
  ·
    intro h1 h2
    refine hp_id (st := [.int 1]) ?_
    refine hp_go (pc' := 13) rfl rfl rfl ?_
    refine hp_s (pc' := 14) (st' := [.int 1]) rfl rfl rfl ?_
    refine hp_go (pc' := 17) rfl rfl rfl ?_
    refine hp_s (pc' := 18) (st' := [.int 1]) rfl rfl rfl ?_
    refine hp_s (pc' := 19) (st' := [.int 4, .int 1]) rfl rfl rfl ?_
    refine hp_go (pc' := 24) rfl rfl rfl ?_
    refine hp_s (pc' := 25) (st' := [.ref 57]) rfl rfl rfl ?_
    refine hp_s (pc' := 26) (st' := [.int t, .ref 57]) rfl rfl rfl ?_
    refine hp_put (k := 4) (pc' := 29) rfl rfl rfl rfl rfl ?_
    intro p2 wp2 ep2
    refine hp_s (pc' := 30) (st' := [.ref 57]) rfl rfl rfl ?_
    refine hp_s (pc' := 31) (st' := [.int 1, .ref 57]) rfl rfl rfl ?_
    refine hp_s (pc' := 32) (st' := [.int x, .int 1, .ref 57]) rfl rfl rfl ?_
    refine hp_s (pc' := 33) (st' := [.int 0, .int x, .int 1, .ref 57]) rfl rfl rfl ?_
    have hk9 : hKi p2 := by subst_vars; exact hKi_w (by decide) (hKi_w (by decide) pre0)
    refine hp_cv (r := 57) (o := 9) (kd := 1) (as := [.int 1, .int x, .int 0]) (rest := []) (pc' := 36) rfl rfl rfl rfl rfl rfl rfl rfl rfl (fun d2 => ?_)
    refine s_own1 hro (xi := x.toInt) rfl (vi := 0) (by decide) (by first | with_reducible assumption | omega | (rw [eB]; exact hKi_1 pre2) | (subst_vars; with_reducible (repeat (first | assumption | apply hKi_g)))) (by first | with_reducible assumption | omega | (rw [eB]; exact hKi_1 pre2) | (subst_vars; with_reducible (repeat (first | assumption | apply hKi_g)))) (by first | with_reducible assumption | omega | (rw [eB]; exact hKi_1 pre2) | (subst_vars; with_reducible (repeat (first | assumption | apply hKi_g)))) ?_
    intro y1 p3 h3 h4
    refine hp_id (st := [.int y1]) ?_
    refine hp_ri rfl rfl ?_
    first | (exact k0 _ (by subst_vars; rfl) (by first | assumption | omega | (subst_vars; rfl))) | (exact k1 _ _ (by first | assumption | omega | (subst_vars; rfl)) (by first | assumption | omega | (subst_vars; rfl)) (by first | assumption | omega | (subst_vars; rfl)) (by first | assumption | omega | (subst_vars; rfl))) | (exfalso; omega)
  ·
    intro h5
    refine hp_id (st := [.int 0]) ?_
    refine hp_go (pc' := 22) rfl rfl rfl ?_
    refine hp_s (pc' := 23) (st' := [.int 0]) rfl rfl rfl ?_
    refine hp_ri rfl rfl ?_
    first | (exact k0 _ (by subst_vars; rfl) (by first | assumption | omega | (subst_vars; rfl))) | (exact k1 _ _ (by first | assumption | omega | (subst_vars; rfl)) (by first | assumption | omega | (subst_vars; rfl)) (by first | assumption | omega | (subst_vars; rfl)) (by first | assumption | omega | (subst_vars; rfl))) | (exfalso; omega)
theorem X_act1 {ro : List (List Int32)} {n d : Nat} {p : xH} {Q : Option Value → xH → Prop} {t : Int32} {ti : Int} {x : Int32} {xi : Int} (hro : jro ro) (ht : t.toInt = ti) (hx : x.toInt = xi) (pre0 : hKi p) (k0 : ∀ p2 : xH, p2 = (wV p 57 3 (.int 0)) → (¬ (0 ≤ ti ∧ ti < (rI p 57 1).toInt)) → Q (some (.int (0))) p2) (k1 : ∀ z : Int32, ∀ p2 : xH, (0 ≤ ti) → (ti < (rI p 57 1).toInt) → (z = aW (gO (wV (wV p 57 3 (.int 0)) 57 4 (.int t))) (gO (wV (wV p 57 3 (.int 0)) 57 4 (.int t))) (gA (wV (wV p 57 3 (.int 0)) 57 4 (.int t))) x) → (p2 = hBg (wV (wV p 57 3 (.int 0)) 57 4 (.int t)) (nW (gO (wV (wV p 57 3 (.int 0)) 57 4 (.int t))) (gO (wV (wV p 57 3 (.int 0)) 57 4 (.int t))))) → Q (some (.int z)) p2) : hP ro n d (11, 4, 1, 1, k163) 0 (lv_args 0 [.ref 0, .int t, .int 1, .int x]) [] p Q := by
  subst ht
  subst hx
  refine hp_id (ls := [(0, .ref 0), (1, .int t), (2, .int 1), (3, .int x)]) ?_
  refine hp_s (pc' := 1) (st' := [.ref 0]) rfl rfl rfl ?_
  refine hp_getr (k := 12) (w := .ref 57) (pc' := 4) rfl rfl rfl rfl rfl ?_
  refine hp_s (pc' := 5) (st' := [.int t, .ref 57]) rfl rfl rfl ?_
  refine hp_s (pc' := 6) (st' := [.int 1, .int t, .ref 57]) rfl rfl rfl ?_
  refine hp_s (pc' := 7) (st' := [.int x, .int 1, .int t, .ref 57]) rfl rfl rfl ?_
  refine hp_cv (r := 57) (o := 9) (kd := 1) (as := [.int t, .int 1, .int x]) (rest := []) (pc' := 10) rfl rfl rfl rfl rfl rfl rfl rfl rfl (fun d1 => ?_)
  refine s_begin1 hro (ti := t.toInt) rfl (xi := x.toInt) rfl (by first | assumption | omega) ?_ ?_
  ·
    intro p1 ep1 h1
    refine hp_id (st := [.int 0]) ?_
    refine hp_ri rfl rfl ?_
    first | (exact k0 _ (by assumption) (by assumption)) | (exact k1 _ _ (by assumption) (by assumption) (by assumption) (by assumption)) | (exfalso; omega)
  ·
    intro y1 p2 h2 h3 h4 h5
    refine hp_id (st := [.int y1]) ?_
    refine hp_ri rfl rfl ?_
    first | (exact k0 _ (by assumption) (by assumption)) | (exact k1 _ _ (by assumption) (by assumption) (by assumption) (by assumption)) | (exfalso; omega)
theorem s_begin2 {ro : List (List Int32)} {n d : Nat} {p : xH} {Q : Option Value → xH → Prop} {t : Int32} {ti : Int} {x : Int32} {xi : Int} (hro : jro ro) (ht : t.toInt = ti) (hx : x.toInt = xi) (pre0 : hKi p) (k0 : ∀ p2 : xH, p2 = (wV p 57 3 (.int 0)) → (¬ (0 ≤ ti ∧ ti < (rI p 57 1).toInt)) → Q (some (.int (0))) p2) (k1 : ∀ z : Int32, ∀ p2 : xH, (0 ≤ ti) → (ti < (rI p 57 1).toInt) → (z = aQ (gO (wV (wV p 57 3 (.int 0)) 57 4 (.int t))) (gO (wV (wV p 57 3 (.int 0)) 57 4 (.int t))) (gA (wV (wV p 57 3 (.int 0)) 57 4 (.int t))) x) → (p2 = hBg (wV (wV p 57 3 (.int 0)) 57 4 (.int t)) (nQ (gO (wV (wV p 57 3 (.int 0)) 57 4 (.int t))) (gO (wV (wV p 57 3 (.int 0)) 57 4 (.int t))))) → Q (some (.int z)) p2) : hP ro n d (9, 4, 1, 1, k113) 0 (lv_args 0 [.ref 57, .int t, .int 2, .int x]) [] p Q := by
  subst ht
  subst hx
  refine hp_id (ls := [(0, .ref 57), (1, .int t), (2, .int 2), (3, .int x)]) ?_
  refine hp_s (pc' := 1) (st' := [.ref 57]) rfl rfl rfl ?_
  refine hp_s (pc' := 2) (st' := [.int 0, .ref 57]) rfl rfl rfl ?_
  refine hp_put (k := 3) (pc' := 5) rfl rfl rfl rfl rfl ?_
  intro p1 wp1 ep1
  refine hp_s (pc' := 6) (st' := [.ref 57]) rfl rfl rfl ?_
  refine hp_s (pc' := 7) (st' := [.int t, .ref 57]) rfl rfl rfl ?_
  have f57 : (rI p1 57 1).toInt = (rI p 57 1).toInt := by subst_vars; rw [rI_ne (fun _ => by decide)]
  refine hp_cv (r := 57) (o := 9) (kd := 1) (as := [.int t]) (rest := []) (pc' := 10) rfl rfl rfl rfl rfl rfl rfl rfl rfl (fun d1 => ?_)
  refine s_hasT (xi := t.toInt) rfl ?_ ?_
  ·
    intro h1 h2
    refine hp_id (st := [.int 1]) ?_
    refine hp_go (pc' := 13) rfl rfl rfl ?_
    refine hp_s (pc' := 14) (st' := [.int 2]) rfl rfl rfl ?_
    refine hp_go (pc' := 17) rfl rfl rfl ?_
    refine hp_s (pc' := 18) (st' := [.int 2]) rfl rfl rfl ?_
    refine hp_s (pc' := 19) (st' := [.int 4, .int 2]) rfl rfl rfl ?_
    refine hp_go (pc' := 24) rfl rfl rfl ?_
    refine hp_s (pc' := 25) (st' := [.ref 57]) rfl rfl rfl ?_
    refine hp_s (pc' := 26) (st' := [.int t, .ref 57]) rfl rfl rfl ?_
    refine hp_put (k := 4) (pc' := 29) rfl rfl rfl rfl rfl ?_
    intro p2 wp2 ep2
    refine hp_s (pc' := 30) (st' := [.ref 57]) rfl rfl rfl ?_
    refine hp_s (pc' := 31) (st' := [.int 2, .ref 57]) rfl rfl rfl ?_
    refine hp_s (pc' := 32) (st' := [.int x, .int 2, .ref 57]) rfl rfl rfl ?_
    refine hp_s (pc' := 33) (st' := [.int 0, .int x, .int 2, .ref 57]) rfl rfl rfl ?_
    have hk9 : hKi p2 := by subst_vars; exact hKi_w (by decide) (hKi_w (by decide) pre0)
    refine hp_cv (r := 57) (o := 9) (kd := 1) (as := [.int 2, .int x, .int 0]) (rest := []) (pc' := 36) rfl rfl rfl rfl rfl rfl rfl rfl rfl (fun d2 => ?_)
    refine s_own2 hro (xi := x.toInt) rfl (vi := 0) (by decide) (by first | with_reducible assumption | omega | (rw [eB]; exact hKi_1 pre2) | (subst_vars; with_reducible (repeat (first | assumption | apply hKi_g)))) (by first | with_reducible assumption | omega | (rw [eB]; exact hKi_1 pre2) | (subst_vars; with_reducible (repeat (first | assumption | apply hKi_g)))) (by first | with_reducible assumption | omega | (rw [eB]; exact hKi_1 pre2) | (subst_vars; with_reducible (repeat (first | assumption | apply hKi_g)))) ?_
    intro y1 p3 h3 h4
    refine hp_id (st := [.int y1]) ?_
    refine hp_ri rfl rfl ?_
    first | (exact k0 _ (by subst_vars; rfl) (by first | assumption | omega | (subst_vars; rfl))) | (exact k1 _ _ (by first | assumption | omega | (subst_vars; rfl)) (by first | assumption | omega | (subst_vars; rfl)) (by first | assumption | omega | (subst_vars; rfl)) (by first | assumption | omega | (subst_vars; rfl))) | (exfalso; omega)
  ·
    intro h5
    refine hp_id (st := [.int 0]) ?_
    refine hp_go (pc' := 22) rfl rfl rfl ?_
    refine hp_s (pc' := 23) (st' := [.int 0]) rfl rfl rfl ?_
    refine hp_ri rfl rfl ?_
    first | (exact k0 _ (by subst_vars; rfl) (by first | assumption | omega | (subst_vars; rfl))) | (exact k1 _ _ (by first | assumption | omega | (subst_vars; rfl)) (by first | assumption | omega | (subst_vars; rfl)) (by first | assumption | omega | (subst_vars; rfl)) (by first | assumption | omega | (subst_vars; rfl))) | (exfalso; omega)
theorem X_act2 {ro : List (List Int32)} {n d : Nat} {p : xH} {Q : Option Value → xH → Prop} {t : Int32} {ti : Int} {x : Int32} {xi : Int} (hro : jro ro) (ht : t.toInt = ti) (hx : x.toInt = xi) (pre0 : hKi p) (k0 : ∀ p2 : xH, p2 = (wV p 57 3 (.int 0)) → (¬ (0 ≤ ti ∧ ti < (rI p 57 1).toInt)) → Q (some (.int (0))) p2) (k1 : ∀ z : Int32, ∀ p2 : xH, (0 ≤ ti) → (ti < (rI p 57 1).toInt) → (z = aQ (gO (wV (wV p 57 3 (.int 0)) 57 4 (.int t))) (gO (wV (wV p 57 3 (.int 0)) 57 4 (.int t))) (gA (wV (wV p 57 3 (.int 0)) 57 4 (.int t))) x) → (p2 = hBg (wV (wV p 57 3 (.int 0)) 57 4 (.int t)) (nQ (gO (wV (wV p 57 3 (.int 0)) 57 4 (.int t))) (gO (wV (wV p 57 3 (.int 0)) 57 4 (.int t))))) → Q (some (.int z)) p2) : hP ro n d (11, 4, 1, 1, k163) 0 (lv_args 0 [.ref 0, .int t, .int 2, .int x]) [] p Q := by
  subst ht
  subst hx
  refine hp_id (ls := [(0, .ref 0), (1, .int t), (2, .int 2), (3, .int x)]) ?_
  refine hp_s (pc' := 1) (st' := [.ref 0]) rfl rfl rfl ?_
  refine hp_getr (k := 12) (w := .ref 57) (pc' := 4) rfl rfl rfl rfl rfl ?_
  refine hp_s (pc' := 5) (st' := [.int t, .ref 57]) rfl rfl rfl ?_
  refine hp_s (pc' := 6) (st' := [.int 2, .int t, .ref 57]) rfl rfl rfl ?_
  refine hp_s (pc' := 7) (st' := [.int x, .int 2, .int t, .ref 57]) rfl rfl rfl ?_
  refine hp_cv (r := 57) (o := 9) (kd := 1) (as := [.int t, .int 2, .int x]) (rest := []) (pc' := 10) rfl rfl rfl rfl rfl rfl rfl rfl rfl (fun d1 => ?_)
  refine s_begin2 hro (ti := t.toInt) rfl (xi := x.toInt) rfl (by first | assumption | omega) ?_ ?_
  ·
    intro p1 ep1 h1
    refine hp_id (st := [.int 0]) ?_
    refine hp_ri rfl rfl ?_
    first | (exact k0 _ (by assumption) (by assumption)) | (exact k1 _ _ (by assumption) (by assumption) (by assumption) (by assumption)) | (exfalso; omega)
  ·
    intro y1 p2 h2 h3 h4 h5
    refine hp_id (st := [.int y1]) ?_
    refine hp_ri rfl rfl ?_
    first | (exact k0 _ (by assumption) (by assumption)) | (exact k1 _ _ (by assumption) (by assumption) (by assumption) (by assumption)) | (exfalso; omega)
theorem s_begin3 {ro : List (List Int32)} {n d : Nat} {p : xH} {Q : Option Value → xH → Prop} {t : Int32} {ti : Int} {x : Int32} {xi : Int} (hro : jro ro) (ht : t.toInt = ti) (hx : x.toInt = xi) (pre0 : hKi p) (k0 : ∀ p2 : xH, p2 = (wV p 57 3 (.int 0)) → (¬ (0 ≤ ti ∧ ti < (rI p 57 1).toInt)) → Q (some (.int (0))) p2) (k1 : ∀ z : Int32, ∀ p2 : xH, (0 ≤ ti) → (ti < (rI p 57 1).toInt) → (z = aT (gO (wV (wV p 57 3 (.int 0)) 57 4 (.int t))) (gO (wV (wV p 57 3 (.int 0)) 57 4 (.int t))) (gA (wV (wV p 57 3 (.int 0)) 57 4 (.int t))) x) → (p2 = hBg (wV (wV p 57 3 (.int 0)) 57 4 (.int t)) (nT (gO (wV (wV p 57 3 (.int 0)) 57 4 (.int t))) (gO (wV (wV p 57 3 (.int 0)) 57 4 (.int t))))) → Q (some (.int z)) p2) : hP ro n d (9, 4, 1, 1, k113) 0 (lv_args 0 [.ref 57, .int t, .int 3, .int x]) [] p Q := by
  subst ht
  subst hx
  refine hp_id (ls := [(0, .ref 57), (1, .int t), (2, .int 3), (3, .int x)]) ?_
  refine hp_s (pc' := 1) (st' := [.ref 57]) rfl rfl rfl ?_
  refine hp_s (pc' := 2) (st' := [.int 0, .ref 57]) rfl rfl rfl ?_
  refine hp_put (k := 3) (pc' := 5) rfl rfl rfl rfl rfl ?_
  intro p1 wp1 ep1
  refine hp_s (pc' := 6) (st' := [.ref 57]) rfl rfl rfl ?_
  refine hp_s (pc' := 7) (st' := [.int t, .ref 57]) rfl rfl rfl ?_
  have f57 : (rI p1 57 1).toInt = (rI p 57 1).toInt := by subst_vars; rw [rI_ne (fun _ => by decide)]
  refine hp_cv (r := 57) (o := 9) (kd := 1) (as := [.int t]) (rest := []) (pc' := 10) rfl rfl rfl rfl rfl rfl rfl rfl rfl (fun d1 => ?_)
  refine s_hasT (xi := t.toInt) rfl ?_ ?_
  ·
    intro h1 h2
    refine hp_id (st := [.int 1]) ?_
    refine hp_go (pc' := 13) rfl rfl rfl ?_
    refine hp_s (pc' := 14) (st' := [.int 3]) rfl rfl rfl ?_
    refine hp_go (pc' := 17) rfl rfl rfl ?_
    refine hp_s (pc' := 18) (st' := [.int 3]) rfl rfl rfl ?_
    refine hp_s (pc' := 19) (st' := [.int 4, .int 3]) rfl rfl rfl ?_
    refine hp_go (pc' := 24) rfl rfl rfl ?_
    refine hp_s (pc' := 25) (st' := [.ref 57]) rfl rfl rfl ?_
    refine hp_s (pc' := 26) (st' := [.int t, .ref 57]) rfl rfl rfl ?_
    refine hp_put (k := 4) (pc' := 29) rfl rfl rfl rfl rfl ?_
    intro p2 wp2 ep2
    refine hp_s (pc' := 30) (st' := [.ref 57]) rfl rfl rfl ?_
    refine hp_s (pc' := 31) (st' := [.int 3, .ref 57]) rfl rfl rfl ?_
    refine hp_s (pc' := 32) (st' := [.int x, .int 3, .ref 57]) rfl rfl rfl ?_
    refine hp_s (pc' := 33) (st' := [.int 0, .int x, .int 3, .ref 57]) rfl rfl rfl ?_
    have hk9 : hKi p2 := by subst_vars; exact hKi_w (by decide) (hKi_w (by decide) pre0)
    refine hp_cv (r := 57) (o := 9) (kd := 1) (as := [.int 3, .int x, .int 0]) (rest := []) (pc' := 36) rfl rfl rfl rfl rfl rfl rfl rfl rfl (fun d2 => ?_)
    refine s_own3 hro (xi := x.toInt) rfl (vi := 0) (by decide) (by first | with_reducible assumption | omega | (rw [eB]; exact hKi_1 pre2) | (subst_vars; with_reducible (repeat (first | assumption | apply hKi_g)))) (by first | with_reducible assumption | omega | (rw [eB]; exact hKi_1 pre2) | (subst_vars; with_reducible (repeat (first | assumption | apply hKi_g)))) (by first | with_reducible assumption | omega | (rw [eB]; exact hKi_1 pre2) | (subst_vars; with_reducible (repeat (first | assumption | apply hKi_g)))) ?_
    intro y1 p3 h3 h4
    refine hp_id (st := [.int y1]) ?_
    refine hp_ri rfl rfl ?_
    first | (exact k0 _ (by subst_vars; rfl) (by first | assumption | omega | (subst_vars; rfl))) | (exact k1 _ _ (by first | assumption | omega | (subst_vars; rfl)) (by first | assumption | omega | (subst_vars; rfl)) (by first | assumption | omega | (subst_vars; rfl)) (by first | assumption | omega | (subst_vars; rfl))) | (exfalso; omega)
  ·
    intro h5
    refine hp_id (st := [.int 0]) ?_
    refine hp_go (pc' := 22) rfl rfl rfl ?_
    refine hp_s (pc' := 23) (st' := [.int 0]) rfl rfl rfl ?_
    refine hp_ri rfl rfl ?_
    first | (exact k0 _ (by subst_vars; rfl) (by first | assumption | omega | (subst_vars; rfl))) | (exact k1 _ _ (by first | assumption | omega | (subst_vars; rfl)) (by first | assumption | omega | (subst_vars; rfl)) (by first | assumption | omega | (subst_vars; rfl)) (by first | assumption | omega | (subst_vars; rfl))) | (exfalso; omega)
theorem X_act3 {ro : List (List Int32)} {n d : Nat} {p : xH} {Q : Option Value → xH → Prop} {t : Int32} {ti : Int} {x : Int32} {xi : Int} (hro : jro ro) (ht : t.toInt = ti) (hx : x.toInt = xi) (pre0 : hKi p) (k0 : ∀ p2 : xH, p2 = (wV p 57 3 (.int 0)) → (¬ (0 ≤ ti ∧ ti < (rI p 57 1).toInt)) → Q (some (.int (0))) p2) (k1 : ∀ z : Int32, ∀ p2 : xH, (0 ≤ ti) → (ti < (rI p 57 1).toInt) → (z = aT (gO (wV (wV p 57 3 (.int 0)) 57 4 (.int t))) (gO (wV (wV p 57 3 (.int 0)) 57 4 (.int t))) (gA (wV (wV p 57 3 (.int 0)) 57 4 (.int t))) x) → (p2 = hBg (wV (wV p 57 3 (.int 0)) 57 4 (.int t)) (nT (gO (wV (wV p 57 3 (.int 0)) 57 4 (.int t))) (gO (wV (wV p 57 3 (.int 0)) 57 4 (.int t))))) → Q (some (.int z)) p2) : hP ro n d (11, 4, 1, 1, k163) 0 (lv_args 0 [.ref 0, .int t, .int 3, .int x]) [] p Q := by
  subst ht
  subst hx
  refine hp_id (ls := [(0, .ref 0), (1, .int t), (2, .int 3), (3, .int x)]) ?_
  refine hp_s (pc' := 1) (st' := [.ref 0]) rfl rfl rfl ?_
  refine hp_getr (k := 12) (w := .ref 57) (pc' := 4) rfl rfl rfl rfl rfl ?_
  refine hp_s (pc' := 5) (st' := [.int t, .ref 57]) rfl rfl rfl ?_
  refine hp_s (pc' := 6) (st' := [.int 3, .int t, .ref 57]) rfl rfl rfl ?_
  refine hp_s (pc' := 7) (st' := [.int x, .int 3, .int t, .ref 57]) rfl rfl rfl ?_
  refine hp_cv (r := 57) (o := 9) (kd := 1) (as := [.int t, .int 3, .int x]) (rest := []) (pc' := 10) rfl rfl rfl rfl rfl rfl rfl rfl rfl (fun d1 => ?_)
  refine s_begin3 hro (ti := t.toInt) rfl (xi := x.toInt) rfl (by first | assumption | omega) ?_ ?_
  ·
    intro p1 ep1 h1
    refine hp_id (st := [.int 0]) ?_
    refine hp_ri rfl rfl ?_
    first | (exact k0 _ (by assumption) (by assumption)) | (exact k1 _ _ (by assumption) (by assumption) (by assumption) (by assumption)) | (exfalso; omega)
  ·
    intro y1 p2 h2 h3 h4 h5
    refine hp_id (st := [.int y1]) ?_
    refine hp_ri rfl rfl ?_
    first | (exact k0 _ (by assumption) (by assumption)) | (exact k1 _ _ (by assumption) (by assumption) (by assumption) (by assumption)) | (exfalso; omega)
theorem s_beginB {ro : List (List Int32)} {n d : Nat} {p : xH} {Q : Option Value → xH → Prop} {t : Int32} {ti : Int} {w : Int32} {wi : Int} {x : Int32} {xi : Int} (ht : t.toInt = ti) (hw : w.toInt = wi) (hx : x.toInt = xi) (pre0 : wi < 0 ∨ 3 < wi) (k0 : ∀ p2 : xH, p2 = (wV p 57 3 (.int 0)) → Q (some (.int (0))) p2) : hP ro n d (9, 4, 1, 1, k113) 0 (lv_args 0 [.ref 57, .int t, .int w, .int x]) [] p Q := by
  subst ht
  subst hw
  subst hx
  refine hp_id (ls := [(0, .ref 57), (1, .int t), (2, .int w), (3, .int x)]) ?_
  refine hp_s (pc' := 1) (st' := [.ref 57]) rfl rfl rfl ?_
  refine hp_s (pc' := 2) (st' := [.int 0, .ref 57]) rfl rfl rfl ?_
  refine hp_put (k := 3) (pc' := 5) rfl rfl rfl rfl rfl ?_
  intro p1 wp1 ep1
  refine hp_s (pc' := 6) (st' := [.ref 57]) rfl rfl rfl ?_
  refine hp_s (pc' := 7) (st' := [.int t, .ref 57]) rfl rfl rfl ?_
  refine hp_cv (r := 57) (o := 9) (kd := 1) (as := [.int t]) (rest := []) (pc' := 10) rfl rfl rfl rfl rfl rfl rfl rfl rfl (fun d1 => ?_)
  refine s_hasT (xi := t.toInt) rfl ?_ ?_
  ·
    intro h1 h2
    refine hp_id (st := [.int 1]) ?_
    refine hp_go (pc' := 13) rfl rfl rfl ?_
    refine hp_s (pc' := 14) (st' := [.int w]) rfl rfl rfl ?_
    refine hp_if (pc' := 17) (t := 22) (a := w.toInt) rfl rfl rfl rfl (fun (h3 : w.toInt < 0) => ?_) (fun (h4 : ¬ (w.toInt < 0)) => ?_)
    ·
      refine hp_s (pc' := 23) (st' := [.int 0]) rfl rfl rfl ?_
      refine hp_ri rfl rfl ?_
      first | (exact k0 _ (by subst_vars; rfl)) | (exfalso; omega)
    ·
      refine hp_s (pc' := 18) (st' := [.int w]) rfl rfl rfl ?_
      refine hp_s (pc' := 19) (st' := [.int 4, .int w]) rfl rfl rfl ?_
      refine hp_ic (pc' := 22) (t := 24) (a := w.toInt) (b := 4) rfl rfl rfl rfl (by decide) (fun (h5 : w.toInt < 4) => ?_) (fun (h6 : ¬ (w.toInt < 4)) => ?_)
      ·
        exfalso; omega
      ·
        refine hp_s (pc' := 23) (st' := [.int 0]) rfl rfl rfl ?_
        refine hp_ri rfl rfl ?_
        first | (exact k0 _ (by subst_vars; rfl)) | (exfalso; omega)
  ·
    intro h7
    refine hp_id (st := [.int 0]) ?_
    refine hp_go (pc' := 22) rfl rfl rfl ?_
    refine hp_s (pc' := 23) (st' := [.int 0]) rfl rfl rfl ?_
    refine hp_ri rfl rfl ?_
    first | (exact k0 _ (by subst_vars; rfl)) | (exfalso; omega)
theorem X_actB {ro : List (List Int32)} {n d : Nat} {p : xH} {Q : Option Value → xH → Prop} {t : Int32} {ti : Int} {w : Int32} {wi : Int} {x : Int32} {xi : Int} (ht : t.toInt = ti) (hw : w.toInt = wi) (hx : x.toInt = xi) (pre0 : wi < 0 ∨ 3 < wi) (k0 : ∀ p2 : xH, p2 = (wV p 57 3 (.int 0)) → Q (some (.int (0))) p2) : hP ro n d (11, 4, 1, 1, k163) 0 (lv_args 0 [.ref 0, .int t, .int w, .int x]) [] p Q := by
  subst ht
  subst hw
  subst hx
  refine hp_id (ls := [(0, .ref 0), (1, .int t), (2, .int w), (3, .int x)]) ?_
  refine hp_s (pc' := 1) (st' := [.ref 0]) rfl rfl rfl ?_
  refine hp_getr (k := 12) (w := .ref 57) (pc' := 4) rfl rfl rfl rfl rfl ?_
  refine hp_s (pc' := 5) (st' := [.int t, .ref 57]) rfl rfl rfl ?_
  refine hp_s (pc' := 6) (st' := [.int w, .int t, .ref 57]) rfl rfl rfl ?_
  refine hp_s (pc' := 7) (st' := [.int x, .int w, .int t, .ref 57]) rfl rfl rfl ?_
  refine hp_cv (r := 57) (o := 9) (kd := 1) (as := [.int t, .int w, .int x]) (rest := []) (pc' := 10) rfl rfl rfl rfl rfl rfl rfl rfl rfl (fun d1 => ?_)
  refine s_beginB (ti := t.toInt) rfl (wi := w.toInt) rfl (xi := x.toInt) rfl (by first | assumption | omega) ?_
  intro p1 ep1
  refine hp_id (st := [.int 0]) ?_
  refine hp_ri rfl rfl ?_
  first | (exact k0 _ (by assumption)) | (exfalso; omega)
theorem M_act0 {ro : List (List Int32)} {n d : Nat} {p : xH} {Q : Option Value → xH → Prop} {t : Int32} {ti : Int} {x : Int32} {xi : Int} (ht : t.toInt = ti) (hx : x.toInt = xi) (pre0 : 0 ≤ (rI p 66 44).toInt) (k0 : ∀ p2 : xH, p2 = (wV p 66 47 (.int 0)) → (¬ (0 ≤ ti ∧ ti < (rI p 66 44).toInt)) → Q (some (.int (0))) p2) (k1 : ∀ z : Int32, ∀ p2 : xH, (0 ≤ ti) → (ti < (rI p 66 44).toInt) → (z = aL (rI p 95 ti.toNat).toInt (mA (wV (wV (wV p 66 47 (.int 0)) 66 48 (.int (rI p 95 ti.toNat))) 66 49 (.int t))) x) → (p2 = hMg (wV (wV (wV p 66 47 (.int 0)) 66 48 (.int (rI p 95 ti.toNat))) 66 49 (.int t)) (nL (rI p 95 ti.toNat).toInt)) → Q (some (.int z)) p2) : hP ro n d (12, 4, 1, 1, k261) 0 (lv_args 0 [.ref 66, .int t, .int 0, .int x]) [] p Q := by
  subst ht
  subst hx
  refine hp_id (ls := [(0, .ref 66), (1, .int t), (2, .int 0), (3, .int x)]) ?_
  refine hp_s (pc' := 1) (st' := [.ref 66]) rfl rfl rfl ?_
  refine hp_s (pc' := 2) (st' := [.int 0, .ref 66]) rfl rfl rfl ?_
  refine hp_put (k := 47) (pc' := 5) rfl rfl rfl rfl rfl ?_
  intro p1 wp1 ep1
  refine hp_s (pc' := 6) (st' := [.ref 66]) rfl rfl rfl ?_
  refine hp_s (pc' := 7) (st' := [.int t, .ref 66]) rfl rfl rfl ?_
  have f44 : (rI p1 66 44).toInt = (rI p 66 44).toInt := by subst_vars; rw [rI_ne (fun _ => by decide)]
  refine hp_cv (r := 66) (o := 12) (kd := 1) (as := [.int t]) (rest := []) (pc' := 10) rfl rfl rfl rfl rfl rfl rfl rfl rfl (fun d1 => ?_)
  refine s_isBody (xi := t.toInt) rfl (by first | assumption | omega) ?_ ?_
  ·
    intro h1 h2
    refine hp_id (st := [.int 1]) ?_
    refine hp_go (pc' := 15) rfl rfl rfl ?_
    refine hp_s (pc' := 16) (st' := [.ref 66]) rfl rfl rfl ?_
    refine hp_s (pc' := 17) (st' := [.ref 66, .ref 66]) rfl rfl rfl ?_
    refine hp_getr (k := 45) (w := .ref 95) (pc' := 20) rfl rfl rfl rfl rfl ?_
    refine hp_s (pc' := 21) (st' := [.int t, .ref 95, .ref 66]) rfl rfl rfl ?_
    refine hp_ld (t := 100) (v := (rI p 95 t.toInt.toNat)) rfl (.inl rfl) rfl rfl (by rw [ep1, rI_o (by decide)]) ?_
    intro (g1a : 0 ≤ t.toInt) (g1b : t.toInt < 50)
    refine hp_put (k := 48) (pc' := 25) rfl rfl rfl rfl rfl ?_
    intro p2 wp2 ep2
    refine hp_s (pc' := 26) (st' := [.ref 66]) rfl rfl rfl ?_
    refine hp_s (pc' := 27) (st' := [.int t, .ref 66]) rfl rfl rfl ?_
    refine hp_put (k := 49) (pc' := 30) rfl rfl rfl rfl rfl ?_
    intro p3 wp3 ep3
    refine hp_s (pc' := 31) (st' := [.int 0]) rfl rfl rfl ?_
    refine hp_go (pc' := 60) rfl rfl rfl ?_
    refine hp_s (pc' := 61) (st' := [.ref 66]) rfl rfl rfl ?_
    refine hp_s (pc' := 62) (st' := [.ref 66, .ref 66]) rfl rfl rfl ?_
    refine hp_get (k := 48) (pc' := 65) (v := (rI p 95 t.toInt.toNat)) rfl rfl rfl rfl rfl (by rw [ep3, rI_ne (fun _ => by decide), ep2, rI_eq wp2 (by decide)]) ?_
    refine hp_s (pc' := 66) (st' := [.int x, .int (rI p 95 t.toInt.toNat), .ref 66]) rfl rfl rfl ?_
    refine hp_cv (r := 66) (o := 12) (kd := 1) (as := [.int (rI p 95 t.toInt.toNat), .int x]) (rest := []) (pc' := 69) rfl rfl rfl rfl rfl rfl rfl rfl rfl (fun d2 => ?_)
    refine s_as0 (ki := (rI p 95 t.toInt.toNat).toInt) rfl (xi := x.toInt) rfl ?_
    intro y1 p4 h3 h4
    refine hp_id (st := [.int y1]) ?_
    refine hp_ri rfl rfl ?_
    first | (exact k0 _ (by subst_vars; rfl) (by first | assumption | omega | (subst_vars; rfl))) | (exact k1 _ _ (by first | assumption | omega | (subst_vars; rfl)) (by first | assumption | omega | (subst_vars; rfl)) (by first | assumption | omega | (subst_vars; rfl)) (by first | assumption | omega | (subst_vars; rfl))) | (exfalso; omega)
  ·
    intro h5
    refine hp_id (st := [.int 0]) ?_
    refine hp_go (pc' := 13) rfl rfl rfl ?_
    refine hp_s (pc' := 14) (st' := [.int 0]) rfl rfl rfl ?_
    refine hp_ri rfl rfl ?_
    first | (exact k0 _ (by subst_vars; rfl) (by first | assumption | omega | (subst_vars; rfl))) | (exact k1 _ _ (by first | assumption | omega | (subst_vars; rfl)) (by first | assumption | omega | (subst_vars; rfl)) (by first | assumption | omega | (subst_vars; rfl)) (by first | assumption | omega | (subst_vars; rfl))) | (exfalso; omega)
theorem M_act1 {ro : List (List Int32)} {n d : Nat} {p : xH} {Q : Option Value → xH → Prop} {t : Int32} {ti : Int} {x : Int32} {xi : Int} (ht : t.toInt = ti) (hx : x.toInt = xi) (pre0 : 0 ≤ (rI p 66 44).toInt) (k0 : ∀ p2 : xH, p2 = (wV p 66 47 (.int 0)) → (¬ (0 ≤ ti ∧ ti < (rI p 66 44).toInt)) → Q (some (.int (0))) p2) (k1 : ∀ z : Int32, ∀ p2 : xH, (0 ≤ ti) → (ti < (rI p 66 44).toInt) → (z = aW (mO (wV (wV (wV p 66 47 (.int 0)) 66 48 (.int (rI p 95 ti.toNat))) 66 49 (.int t))) (rI p 95 ti.toNat).toInt (mA (wV (wV (wV p 66 47 (.int 0)) 66 48 (.int (rI p 95 ti.toNat))) 66 49 (.int t))) x) → (p2 = hMg (wV (wV (wV p 66 47 (.int 0)) 66 48 (.int (rI p 95 ti.toNat))) 66 49 (.int t)) (nW (mO (wV (wV (wV p 66 47 (.int 0)) 66 48 (.int (rI p 95 ti.toNat))) 66 49 (.int t))) (rI p 95 ti.toNat).toInt)) → Q (some (.int z)) p2) : hP ro n d (12, 4, 1, 1, k261) 0 (lv_args 0 [.ref 66, .int t, .int 1, .int x]) [] p Q := by
  subst ht
  subst hx
  refine hp_id (ls := [(0, .ref 66), (1, .int t), (2, .int 1), (3, .int x)]) ?_
  refine hp_s (pc' := 1) (st' := [.ref 66]) rfl rfl rfl ?_
  refine hp_s (pc' := 2) (st' := [.int 0, .ref 66]) rfl rfl rfl ?_
  refine hp_put (k := 47) (pc' := 5) rfl rfl rfl rfl rfl ?_
  intro p1 wp1 ep1
  refine hp_s (pc' := 6) (st' := [.ref 66]) rfl rfl rfl ?_
  refine hp_s (pc' := 7) (st' := [.int t, .ref 66]) rfl rfl rfl ?_
  have f44 : (rI p1 66 44).toInt = (rI p 66 44).toInt := by subst_vars; rw [rI_ne (fun _ => by decide)]
  refine hp_cv (r := 66) (o := 12) (kd := 1) (as := [.int t]) (rest := []) (pc' := 10) rfl rfl rfl rfl rfl rfl rfl rfl rfl (fun d1 => ?_)
  refine s_isBody (xi := t.toInt) rfl (by first | assumption | omega) ?_ ?_
  ·
    intro h1 h2
    refine hp_id (st := [.int 1]) ?_
    refine hp_go (pc' := 15) rfl rfl rfl ?_
    refine hp_s (pc' := 16) (st' := [.ref 66]) rfl rfl rfl ?_
    refine hp_s (pc' := 17) (st' := [.ref 66, .ref 66]) rfl rfl rfl ?_
    refine hp_getr (k := 45) (w := .ref 95) (pc' := 20) rfl rfl rfl rfl rfl ?_
    refine hp_s (pc' := 21) (st' := [.int t, .ref 95, .ref 66]) rfl rfl rfl ?_
    refine hp_ld (t := 100) (v := (rI p 95 t.toInt.toNat)) rfl (.inl rfl) rfl rfl (by rw [ep1, rI_o (by decide)]) ?_
    intro (g1a : 0 ≤ t.toInt) (g1b : t.toInt < 50)
    refine hp_put (k := 48) (pc' := 25) rfl rfl rfl rfl rfl ?_
    intro p2 wp2 ep2
    refine hp_s (pc' := 26) (st' := [.ref 66]) rfl rfl rfl ?_
    refine hp_s (pc' := 27) (st' := [.int t, .ref 66]) rfl rfl rfl ?_
    refine hp_put (k := 49) (pc' := 30) rfl rfl rfl rfl rfl ?_
    intro p3 wp3 ep3
    refine hp_s (pc' := 31) (st' := [.int 1]) rfl rfl rfl ?_
    refine hp_go (pc' := 70) rfl rfl rfl ?_
    refine hp_s (pc' := 71) (st' := [.ref 66]) rfl rfl rfl ?_
    refine hp_s (pc' := 72) (st' := [.ref 66, .ref 66]) rfl rfl rfl ?_
    refine hp_get (k := 48) (pc' := 75) (v := (rI p 95 t.toInt.toNat)) rfl rfl rfl rfl rfl (by rw [ep3, rI_ne (fun _ => by decide), ep2, rI_eq wp2 (by decide)]) ?_
    refine hp_s (pc' := 76) (st' := [.int x, .int (rI p 95 t.toInt.toNat), .ref 66]) rfl rfl rfl ?_
    refine hp_cv (r := 66) (o := 12) (kd := 1) (as := [.int (rI p 95 t.toInt.toNat), .int x]) (rest := []) (pc' := 79) rfl rfl rfl rfl rfl rfl rfl rfl rfl (fun d2 => ?_)
    refine s_as1 (ki := (rI p 95 t.toInt.toNat).toInt) rfl (xi := x.toInt) rfl ?_
    intro y1 p4 h3 h4
    refine hp_id (st := [.int y1]) ?_
    refine hp_ri rfl rfl ?_
    first | (exact k0 _ (by subst_vars; rfl) (by first | assumption | omega | (subst_vars; rfl))) | (exact k1 _ _ (by first | assumption | omega | (subst_vars; rfl)) (by first | assumption | omega | (subst_vars; rfl)) (by first | assumption | omega | (subst_vars; rfl)) (by first | assumption | omega | (subst_vars; rfl))) | (exfalso; omega)
  ·
    intro h5
    refine hp_id (st := [.int 0]) ?_
    refine hp_go (pc' := 13) rfl rfl rfl ?_
    refine hp_s (pc' := 14) (st' := [.int 0]) rfl rfl rfl ?_
    refine hp_ri rfl rfl ?_
    first | (exact k0 _ (by subst_vars; rfl) (by first | assumption | omega | (subst_vars; rfl))) | (exact k1 _ _ (by first | assumption | omega | (subst_vars; rfl)) (by first | assumption | omega | (subst_vars; rfl)) (by first | assumption | omega | (subst_vars; rfl)) (by first | assumption | omega | (subst_vars; rfl))) | (exfalso; omega)
theorem M_act2 {ro : List (List Int32)} {n d : Nat} {p : xH} {Q : Option Value → xH → Prop} {t : Int32} {ti : Int} {x : Int32} {xi : Int} (ht : t.toInt = ti) (hx : x.toInt = xi) (pre0 : 0 ≤ (rI p 66 44).toInt) (k0 : ∀ p2 : xH, p2 = (wV p 66 47 (.int 0)) → (¬ (0 ≤ ti ∧ ti < (rI p 66 44).toInt)) → Q (some (.int (0))) p2) (k1 : ∀ z : Int32, ∀ p2 : xH, (0 ≤ ti) → (ti < (rI p 66 44).toInt) → (z = aQ (mO (wV (wV (wV p 66 47 (.int 0)) 66 48 (.int (rI p 95 ti.toNat))) 66 49 (.int t))) (rI p 95 ti.toNat).toInt (mA (wV (wV (wV p 66 47 (.int 0)) 66 48 (.int (rI p 95 ti.toNat))) 66 49 (.int t))) x) → (p2 = hMg (wV (wV (wV p 66 47 (.int 0)) 66 48 (.int (rI p 95 ti.toNat))) 66 49 (.int t)) (nQ (mO (wV (wV (wV p 66 47 (.int 0)) 66 48 (.int (rI p 95 ti.toNat))) 66 49 (.int t))) (rI p 95 ti.toNat).toInt)) → Q (some (.int z)) p2) : hP ro n d (12, 4, 1, 1, k261) 0 (lv_args 0 [.ref 66, .int t, .int 2, .int x]) [] p Q := by
  subst ht
  subst hx
  refine hp_id (ls := [(0, .ref 66), (1, .int t), (2, .int 2), (3, .int x)]) ?_
  refine hp_s (pc' := 1) (st' := [.ref 66]) rfl rfl rfl ?_
  refine hp_s (pc' := 2) (st' := [.int 0, .ref 66]) rfl rfl rfl ?_
  refine hp_put (k := 47) (pc' := 5) rfl rfl rfl rfl rfl ?_
  intro p1 wp1 ep1
  refine hp_s (pc' := 6) (st' := [.ref 66]) rfl rfl rfl ?_
  refine hp_s (pc' := 7) (st' := [.int t, .ref 66]) rfl rfl rfl ?_
  have f44 : (rI p1 66 44).toInt = (rI p 66 44).toInt := by subst_vars; rw [rI_ne (fun _ => by decide)]
  refine hp_cv (r := 66) (o := 12) (kd := 1) (as := [.int t]) (rest := []) (pc' := 10) rfl rfl rfl rfl rfl rfl rfl rfl rfl (fun d1 => ?_)
  refine s_isBody (xi := t.toInt) rfl (by first | assumption | omega) ?_ ?_
  ·
    intro h1 h2
    refine hp_id (st := [.int 1]) ?_
    refine hp_go (pc' := 15) rfl rfl rfl ?_
    refine hp_s (pc' := 16) (st' := [.ref 66]) rfl rfl rfl ?_
    refine hp_s (pc' := 17) (st' := [.ref 66, .ref 66]) rfl rfl rfl ?_
    refine hp_getr (k := 45) (w := .ref 95) (pc' := 20) rfl rfl rfl rfl rfl ?_
    refine hp_s (pc' := 21) (st' := [.int t, .ref 95, .ref 66]) rfl rfl rfl ?_
    refine hp_ld (t := 100) (v := (rI p 95 t.toInt.toNat)) rfl (.inl rfl) rfl rfl (by rw [ep1, rI_o (by decide)]) ?_
    intro (g1a : 0 ≤ t.toInt) (g1b : t.toInt < 50)
    refine hp_put (k := 48) (pc' := 25) rfl rfl rfl rfl rfl ?_
    intro p2 wp2 ep2
    refine hp_s (pc' := 26) (st' := [.ref 66]) rfl rfl rfl ?_
    refine hp_s (pc' := 27) (st' := [.int t, .ref 66]) rfl rfl rfl ?_
    refine hp_put (k := 49) (pc' := 30) rfl rfl rfl rfl rfl ?_
    intro p3 wp3 ep3
    refine hp_s (pc' := 31) (st' := [.int 2]) rfl rfl rfl ?_
    refine hp_go (pc' := 80) rfl rfl rfl ?_
    refine hp_s (pc' := 81) (st' := [.ref 66]) rfl rfl rfl ?_
    refine hp_s (pc' := 82) (st' := [.ref 66, .ref 66]) rfl rfl rfl ?_
    refine hp_get (k := 48) (pc' := 85) (v := (rI p 95 t.toInt.toNat)) rfl rfl rfl rfl rfl (by rw [ep3, rI_ne (fun _ => by decide), ep2, rI_eq wp2 (by decide)]) ?_
    refine hp_s (pc' := 86) (st' := [.int x, .int (rI p 95 t.toInt.toNat), .ref 66]) rfl rfl rfl ?_
    refine hp_cv (r := 66) (o := 12) (kd := 1) (as := [.int (rI p 95 t.toInt.toNat), .int x]) (rest := []) (pc' := 89) rfl rfl rfl rfl rfl rfl rfl rfl rfl (fun d2 => ?_)
    refine s_as2 (ki := (rI p 95 t.toInt.toNat).toInt) rfl (xi := x.toInt) rfl ?_
    intro y1 p4 h3 h4
    refine hp_id (st := [.int y1]) ?_
    refine hp_ri rfl rfl ?_
    first | (exact k0 _ (by subst_vars; rfl) (by first | assumption | omega | (subst_vars; rfl))) | (exact k1 _ _ (by first | assumption | omega | (subst_vars; rfl)) (by first | assumption | omega | (subst_vars; rfl)) (by first | assumption | omega | (subst_vars; rfl)) (by first | assumption | omega | (subst_vars; rfl))) | (exfalso; omega)
  ·
    intro h5
    refine hp_id (st := [.int 0]) ?_
    refine hp_go (pc' := 13) rfl rfl rfl ?_
    refine hp_s (pc' := 14) (st' := [.int 0]) rfl rfl rfl ?_
    refine hp_ri rfl rfl ?_
    first | (exact k0 _ (by subst_vars; rfl) (by first | assumption | omega | (subst_vars; rfl))) | (exact k1 _ _ (by first | assumption | omega | (subst_vars; rfl)) (by first | assumption | omega | (subst_vars; rfl)) (by first | assumption | omega | (subst_vars; rfl)) (by first | assumption | omega | (subst_vars; rfl))) | (exfalso; omega)
theorem M_act3 {ro : List (List Int32)} {n d : Nat} {p : xH} {Q : Option Value → xH → Prop} {t : Int32} {ti : Int} {x : Int32} {xi : Int} (ht : t.toInt = ti) (hx : x.toInt = xi) (pre0 : 0 ≤ (rI p 66 44).toInt) (k0 : ∀ p2 : xH, p2 = (wV p 66 47 (.int 0)) → (¬ (0 ≤ ti ∧ ti < (rI p 66 44).toInt)) → Q (some (.int (0))) p2) (k1 : ∀ z : Int32, ∀ p2 : xH, (0 ≤ ti) → (ti < (rI p 66 44).toInt) → (z = aT (mO (wV (wV (wV p 66 47 (.int 0)) 66 48 (.int (rI p 95 ti.toNat))) 66 49 (.int t))) (rI p 95 ti.toNat).toInt (mA (wV (wV (wV p 66 47 (.int 0)) 66 48 (.int (rI p 95 ti.toNat))) 66 49 (.int t))) x) → (p2 = hMg (wV (wV (wV p 66 47 (.int 0)) 66 48 (.int (rI p 95 ti.toNat))) 66 49 (.int t)) (nT (mO (wV (wV (wV p 66 47 (.int 0)) 66 48 (.int (rI p 95 ti.toNat))) 66 49 (.int t))) (rI p 95 ti.toNat).toInt)) → Q (some (.int z)) p2) : hP ro n d (12, 4, 1, 1, k261) 0 (lv_args 0 [.ref 66, .int t, .int 3, .int x]) [] p Q := by
  subst ht
  subst hx
  refine hp_id (ls := [(0, .ref 66), (1, .int t), (2, .int 3), (3, .int x)]) ?_
  refine hp_s (pc' := 1) (st' := [.ref 66]) rfl rfl rfl ?_
  refine hp_s (pc' := 2) (st' := [.int 0, .ref 66]) rfl rfl rfl ?_
  refine hp_put (k := 47) (pc' := 5) rfl rfl rfl rfl rfl ?_
  intro p1 wp1 ep1
  refine hp_s (pc' := 6) (st' := [.ref 66]) rfl rfl rfl ?_
  refine hp_s (pc' := 7) (st' := [.int t, .ref 66]) rfl rfl rfl ?_
  have f44 : (rI p1 66 44).toInt = (rI p 66 44).toInt := by subst_vars; rw [rI_ne (fun _ => by decide)]
  refine hp_cv (r := 66) (o := 12) (kd := 1) (as := [.int t]) (rest := []) (pc' := 10) rfl rfl rfl rfl rfl rfl rfl rfl rfl (fun d1 => ?_)
  refine s_isBody (xi := t.toInt) rfl (by first | assumption | omega) ?_ ?_
  ·
    intro h1 h2
    refine hp_id (st := [.int 1]) ?_
    refine hp_go (pc' := 15) rfl rfl rfl ?_
    refine hp_s (pc' := 16) (st' := [.ref 66]) rfl rfl rfl ?_
    refine hp_s (pc' := 17) (st' := [.ref 66, .ref 66]) rfl rfl rfl ?_
    refine hp_getr (k := 45) (w := .ref 95) (pc' := 20) rfl rfl rfl rfl rfl ?_
    refine hp_s (pc' := 21) (st' := [.int t, .ref 95, .ref 66]) rfl rfl rfl ?_
    refine hp_ld (t := 100) (v := (rI p 95 t.toInt.toNat)) rfl (.inl rfl) rfl rfl (by rw [ep1, rI_o (by decide)]) ?_
    intro (g1a : 0 ≤ t.toInt) (g1b : t.toInt < 50)
    refine hp_put (k := 48) (pc' := 25) rfl rfl rfl rfl rfl ?_
    intro p2 wp2 ep2
    refine hp_s (pc' := 26) (st' := [.ref 66]) rfl rfl rfl ?_
    refine hp_s (pc' := 27) (st' := [.int t, .ref 66]) rfl rfl rfl ?_
    refine hp_put (k := 49) (pc' := 30) rfl rfl rfl rfl rfl ?_
    intro p3 wp3 ep3
    refine hp_s (pc' := 31) (st' := [.int 3]) rfl rfl rfl ?_
    refine hp_go (pc' := 90) rfl rfl rfl ?_
    refine hp_s (pc' := 91) (st' := [.ref 66]) rfl rfl rfl ?_
    refine hp_s (pc' := 92) (st' := [.ref 66, .ref 66]) rfl rfl rfl ?_
    refine hp_get (k := 48) (pc' := 95) (v := (rI p 95 t.toInt.toNat)) rfl rfl rfl rfl rfl (by rw [ep3, rI_ne (fun _ => by decide), ep2, rI_eq wp2 (by decide)]) ?_
    refine hp_s (pc' := 96) (st' := [.int x, .int (rI p 95 t.toInt.toNat), .ref 66]) rfl rfl rfl ?_
    refine hp_cv (r := 66) (o := 12) (kd := 1) (as := [.int (rI p 95 t.toInt.toNat), .int x]) (rest := []) (pc' := 99) rfl rfl rfl rfl rfl rfl rfl rfl rfl (fun d2 => ?_)
    refine s_as3 (ki := (rI p 95 t.toInt.toNat).toInt) rfl (xi := x.toInt) rfl ?_
    intro y1 p4 h3 h4
    refine hp_id (st := [.int y1]) ?_
    refine hp_ri rfl rfl ?_
    first | (exact k0 _ (by subst_vars; rfl) (by first | assumption | omega | (subst_vars; rfl))) | (exact k1 _ _ (by first | assumption | omega | (subst_vars; rfl)) (by first | assumption | omega | (subst_vars; rfl)) (by first | assumption | omega | (subst_vars; rfl)) (by first | assumption | omega | (subst_vars; rfl))) | (exfalso; omega)
  ·
    intro h5
    refine hp_id (st := [.int 0]) ?_
    refine hp_go (pc' := 13) rfl rfl rfl ?_
    refine hp_s (pc' := 14) (st' := [.int 0]) rfl rfl rfl ?_
    refine hp_ri rfl rfl ?_
    first | (exact k0 _ (by subst_vars; rfl) (by first | assumption | omega | (subst_vars; rfl))) | (exact k1 _ _ (by first | assumption | omega | (subst_vars; rfl)) (by first | assumption | omega | (subst_vars; rfl)) (by first | assumption | omega | (subst_vars; rfl)) (by first | assumption | omega | (subst_vars; rfl))) | (exfalso; omega)
theorem M_actB {ro : List (List Int32)} {n d : Nat} {p : xH} {Q : Option Value → xH → Prop} {t : Int32} {ti : Int} {w : Int32} {wi : Int} {x : Int32} {xi : Int} (ht : t.toInt = ti) (hw : w.toInt = wi) (hx : x.toInt = xi) (pre0 : 0 ≤ (rI p 66 44).toInt) (pre1 : wi < 0 ∨ 3 < wi) (k0 : ∀ p2 : xH, p2 = (wV p 66 47 (.int 0)) → (¬ (0 ≤ ti ∧ ti < (rI p 66 44).toInt)) → Q (some (.int (0))) p2) (k1 : ∀ p2 : xH, p2 = (wV (wV (wV p 66 47 (.int 0)) 66 48 (.int (rI p 95 ti.toNat))) 66 49 (.int t)) → (0 ≤ ti) → (ti < (rI p 66 44).toInt) → Q (some (.int (0))) p2) : hP ro n d (12, 4, 1, 1, k261) 0 (lv_args 0 [.ref 66, .int t, .int w, .int x]) [] p Q := by
  subst ht
  subst hw
  subst hx
  refine hp_id (ls := [(0, .ref 66), (1, .int t), (2, .int w), (3, .int x)]) ?_
  refine hp_s (pc' := 1) (st' := [.ref 66]) rfl rfl rfl ?_
  refine hp_s (pc' := 2) (st' := [.int 0, .ref 66]) rfl rfl rfl ?_
  refine hp_put (k := 47) (pc' := 5) rfl rfl rfl rfl rfl ?_
  intro p1 wp1 ep1
  refine hp_s (pc' := 6) (st' := [.ref 66]) rfl rfl rfl ?_
  refine hp_s (pc' := 7) (st' := [.int t, .ref 66]) rfl rfl rfl ?_
  have f44 : (rI p1 66 44).toInt = (rI p 66 44).toInt := by subst_vars; rw [rI_ne (fun _ => by decide)]
  refine hp_cv (r := 66) (o := 12) (kd := 1) (as := [.int t]) (rest := []) (pc' := 10) rfl rfl rfl rfl rfl rfl rfl rfl rfl (fun d1 => ?_)
  refine s_isBody (xi := t.toInt) rfl (by first | assumption | omega) ?_ ?_
  ·
    intro h1 h2
    refine hp_id (st := [.int 1]) ?_
    refine hp_go (pc' := 15) rfl rfl rfl ?_
    refine hp_s (pc' := 16) (st' := [.ref 66]) rfl rfl rfl ?_
    refine hp_s (pc' := 17) (st' := [.ref 66, .ref 66]) rfl rfl rfl ?_
    refine hp_getr (k := 45) (w := .ref 95) (pc' := 20) rfl rfl rfl rfl rfl ?_
    refine hp_s (pc' := 21) (st' := [.int t, .ref 95, .ref 66]) rfl rfl rfl ?_
    refine hp_ld (t := 100) (v := (rI p 95 t.toInt.toNat)) rfl (.inl rfl) rfl rfl (by rw [ep1, rI_o (by decide)]) ?_
    intro (g1a : 0 ≤ t.toInt) (g1b : t.toInt < 50)
    refine hp_put (k := 48) (pc' := 25) rfl rfl rfl rfl rfl ?_
    intro p2 wp2 ep2
    refine hp_s (pc' := 26) (st' := [.ref 66]) rfl rfl rfl ?_
    refine hp_s (pc' := 27) (st' := [.int t, .ref 66]) rfl rfl rfl ?_
    refine hp_put (k := 49) (pc' := 30) rfl rfl rfl rfl rfl ?_
    intro p3 wp3 ep3
    refine hp_s (pc' := 31) (st' := [.int w]) rfl rfl rfl ?_
    by_cases h3 : w.toInt = 0
    ·
      refine hp_sw (v := 0) (t := 60) rfl rfl (h3) rfl ?_
      refine hp_s (pc' := 61) (st' := [.ref 66]) rfl rfl rfl ?_
      refine hp_s (pc' := 62) (st' := [.ref 66, .ref 66]) rfl rfl rfl ?_
      refine hp_get (k := 48) (pc' := 65) (v := (rI p 95 t.toInt.toNat)) rfl rfl rfl rfl rfl (by rw [ep3, rI_ne (fun _ => by decide), ep2, rI_eq wp2 (by decide)]) ?_
      refine hp_s (pc' := 66) (st' := [.int x, .int (rI p 95 t.toInt.toNat), .ref 66]) rfl rfl rfl ?_
      refine hp_cv (r := 66) (o := 12) (kd := 1) (as := [.int (rI p 95 t.toInt.toNat), .int x]) (rest := []) (pc' := 69) rfl rfl rfl rfl rfl rfl rfl rfl rfl (fun d2 => ?_)
      refine s_as0 (ki := (rI p 95 t.toInt.toNat).toInt) rfl (xi := x.toInt) rfl ?_
      intro y1 p4 h4 h5
      refine hp_id (st := [.int y1]) ?_
      refine hp_ri rfl rfl ?_
      first | (exact k0 _ (by subst_vars; rfl) (by first | assumption | omega | (subst_vars; rfl))) | (exact k1 _ (by subst_vars; rfl) (by first | assumption | omega | (subst_vars; rfl)) (by first | assumption | omega | (subst_vars; rfl))) | (exfalso; omega)
    by_cases h6 : w.toInt = 1
    ·
      refine hp_sw (v := 1) (t := 70) rfl rfl (h6) rfl ?_
      refine hp_s (pc' := 71) (st' := [.ref 66]) rfl rfl rfl ?_
      refine hp_s (pc' := 72) (st' := [.ref 66, .ref 66]) rfl rfl rfl ?_
      refine hp_get (k := 48) (pc' := 75) (v := (rI p 95 t.toInt.toNat)) rfl rfl rfl rfl rfl (by rw [ep3, rI_ne (fun _ => by decide), ep2, rI_eq wp2 (by decide)]) ?_
      refine hp_s (pc' := 76) (st' := [.int x, .int (rI p 95 t.toInt.toNat), .ref 66]) rfl rfl rfl ?_
      refine hp_cv (r := 66) (o := 12) (kd := 1) (as := [.int (rI p 95 t.toInt.toNat), .int x]) (rest := []) (pc' := 79) rfl rfl rfl rfl rfl rfl rfl rfl rfl (fun d3 => ?_)
      refine s_as1 (ki := (rI p 95 t.toInt.toNat).toInt) rfl (xi := x.toInt) rfl ?_
      intro y2 p5 h7 h8
      refine hp_id (st := [.int y2]) ?_
      refine hp_ri rfl rfl ?_
      first | (exact k0 _ (by subst_vars; rfl) (by first | assumption | omega | (subst_vars; rfl))) | (exact k1 _ (by subst_vars; rfl) (by first | assumption | omega | (subst_vars; rfl)) (by first | assumption | omega | (subst_vars; rfl))) | (exfalso; omega)
    by_cases h9 : w.toInt = 2
    ·
      refine hp_sw (v := 2) (t := 80) rfl rfl (h9) rfl ?_
      refine hp_s (pc' := 81) (st' := [.ref 66]) rfl rfl rfl ?_
      refine hp_s (pc' := 82) (st' := [.ref 66, .ref 66]) rfl rfl rfl ?_
      refine hp_get (k := 48) (pc' := 85) (v := (rI p 95 t.toInt.toNat)) rfl rfl rfl rfl rfl (by rw [ep3, rI_ne (fun _ => by decide), ep2, rI_eq wp2 (by decide)]) ?_
      refine hp_s (pc' := 86) (st' := [.int x, .int (rI p 95 t.toInt.toNat), .ref 66]) rfl rfl rfl ?_
      refine hp_cv (r := 66) (o := 12) (kd := 1) (as := [.int (rI p 95 t.toInt.toNat), .int x]) (rest := []) (pc' := 89) rfl rfl rfl rfl rfl rfl rfl rfl rfl (fun d4 => ?_)
      refine s_as2 (ki := (rI p 95 t.toInt.toNat).toInt) rfl (xi := x.toInt) rfl ?_
      intro y3 p6 h10 h11
      refine hp_id (st := [.int y3]) ?_
      refine hp_ri rfl rfl ?_
      first | (exact k0 _ (by subst_vars; rfl) (by first | assumption | omega | (subst_vars; rfl))) | (exact k1 _ (by subst_vars; rfl) (by first | assumption | omega | (subst_vars; rfl)) (by first | assumption | omega | (subst_vars; rfl))) | (exfalso; omega)
    by_cases h12 : w.toInt = 3
    ·
      refine hp_sw (v := 3) (t := 90) rfl rfl (h12) rfl ?_
      refine hp_s (pc' := 91) (st' := [.ref 66]) rfl rfl rfl ?_
      refine hp_s (pc' := 92) (st' := [.ref 66, .ref 66]) rfl rfl rfl ?_
      refine hp_get (k := 48) (pc' := 95) (v := (rI p 95 t.toInt.toNat)) rfl rfl rfl rfl rfl (by rw [ep3, rI_ne (fun _ => by decide), ep2, rI_eq wp2 (by decide)]) ?_
      refine hp_s (pc' := 96) (st' := [.int x, .int (rI p 95 t.toInt.toNat), .ref 66]) rfl rfl rfl ?_
      refine hp_cv (r := 66) (o := 12) (kd := 1) (as := [.int (rI p 95 t.toInt.toNat), .int x]) (rest := []) (pc' := 99) rfl rfl rfl rfl rfl rfl rfl rfl rfl (fun d5 => ?_)
      refine s_as3 (ki := (rI p 95 t.toInt.toNat).toInt) rfl (xi := x.toInt) rfl ?_
      intro y4 p7 h13 h14
      refine hp_id (st := [.int y4]) ?_
      refine hp_ri rfl rfl ?_
      first | (exact k0 _ (by subst_vars; rfl) (by first | assumption | omega | (subst_vars; rfl))) | (exact k1 _ (by subst_vars; rfl) (by first | assumption | omega | (subst_vars; rfl)) (by first | assumption | omega | (subst_vars; rfl))) | (exfalso; omega)
    refine hp_td (t := 100) rfl rfl (by omega) ?_
    refine hp_s (pc' := 101) (st' := [.int 0]) rfl rfl rfl ?_
    refine hp_ri rfl rfl ?_
    first | (exact k0 _ (by subst_vars; rfl) (by first | assumption | omega | (subst_vars; rfl))) | (exact k1 _ (by subst_vars; rfl) (by first | assumption | omega | (subst_vars; rfl)) (by first | assumption | omega | (subst_vars; rfl))) | (exfalso; omega)
  ·
    intro h15
    refine hp_id (st := [.int 0]) ?_
    refine hp_go (pc' := 13) rfl rfl rfl ?_
    refine hp_s (pc' := 14) (st' := [.int 0]) rfl rfl rfl ?_
    refine hp_ri rfl rfl ?_
    first | (exact k0 _ (by subst_vars; rfl) (by first | assumption | omega | (subst_vars; rfl))) | (exact k1 _ (by subst_vars; rfl) (by first | assumption | omega | (subst_vars; rfl)) (by first | assumption | omega | (subst_vars; rfl))) | (exfalso; omega)
theorem s_traced {ro : List (List Int32)} {n d : Nat} {p : xH} {Q : Option Value → xH → Prop}   (k0 : ∀ z : Int32, (z.toInt = (rI p 57 3).toInt ∨ z.toInt = 24) → (z.toInt ≤ (rI p 57 3).toInt) → (z.toInt ≤ 24) → Q (some (.int z)) p) : hP ro n d (9, 1, 1, 1, k112) 0 (lv_args 0 [.ref 57]) [] p Q := by
  refine hp_id (ls := [(0, .ref 57)]) ?_
  refine hp_s (pc' := 1) (st' := [.ref 57]) rfl rfl rfl ?_
  refine hp_get (k := 3) (pc' := 4) (v := (rI p 57 3)) rfl rfl rfl rfl rfl rfl ?_
  refine hp_s (pc' := 6) (st' := [.int 24, .int (rI p 57 3)]) rfl rfl rfl ?_
  refine hp_mm (pc' := 9) (e := (if 24 < (rI p 57 3) then 24 else (rI p 57 3))) rfl rfl rfl ?_
  intro z1 hz1
  refine hp_ri rfl rfl ?_
  first | (exact k0 _ (by first | assumption | (have h24 : (24 : Int32).toInt = 24 := (by decide); subst_vars; by_cases g : (24 : Int32).toInt < (rI p 57 3).toInt <;> first | (rw [if_pos (Int32.lt_iff_toInt_lt.mpr g)]; omega) | (rw [if_neg (fun e => g (Int32.lt_iff_toInt_lt.mp e))]; omega))) (by first | assumption | (have h24 : (24 : Int32).toInt = 24 := (by decide); subst_vars; by_cases g : (24 : Int32).toInt < (rI p 57 3).toInt <;> first | (rw [if_pos (Int32.lt_iff_toInt_lt.mpr g)]; omega) | (rw [if_neg (fun e => g (Int32.lt_iff_toInt_lt.mp e))]; omega))) (by first | assumption | (have h24 : (24 : Int32).toInt = 24 := (by decide); subst_vars; by_cases g : (24 : Int32).toInt < (rI p 57 3).toInt <;> first | (rw [if_pos (Int32.lt_iff_toInt_lt.mpr g)]; omega) | (rw [if_neg (fun e => g (Int32.lt_iff_toInt_lt.mp e))]; omega)))) | (exfalso; omega)
theorem X_trace {ro : List (List Int32)} {n d : Nat} {p : xH} {Q : Option Value → xH → Prop} {x : Int32} {xi : Int} (hx : x.toInt = xi)  (k0 : (¬ (0 ≤ xi ∧ xi < 24 ∧ xi < (rI p 57 3).toInt)) → Q (some (.int (-1))) p) (k1 : (0 ≤ xi) → (xi < 24) → (xi < (rI p 57 3).toInt) → Q (some (.int (rI p 59 xi.toNat))) p) : hP ro n d (11, 2, 1, 1, k164) 0 (lv_args 0 [.ref 0, .int x]) [] p Q := by
  subst hx
  refine hp_id (ls := [(0, .ref 0), (1, .int x)]) ?_
  refine hp_s (pc' := 1) (st' := [.int x]) rfl rfl rfl ?_
  refine hp_if (pc' := 4) (t := 27) (a := x.toInt) rfl rfl rfl rfl (fun (h1 : x.toInt < 0) => ?_) (fun (h2 : ¬ (x.toInt < 0)) => ?_)
  ·
    refine hp_s (pc' := 28) (st' := [.int (-1)]) rfl rfl rfl ?_
    refine hp_ri rfl rfl ?_
    first | (exact k0 (by first | assumption | omega)) | (exact k1 (by first | assumption | omega) (by first | assumption | omega) (by first | assumption | omega)) | (exfalso; omega)
  ·
    refine hp_s (pc' := 5) (st' := [.int x]) rfl rfl rfl ?_
    refine hp_s (pc' := 6) (st' := [.ref 0, .int x]) rfl rfl rfl ?_
    refine hp_getr (k := 12) (w := .ref 57) (pc' := 9) rfl rfl rfl rfl rfl ?_
    refine hp_cv (r := 57) (o := 9) (kd := 1) (as := []) (rest := [.int x]) (pc' := 12) rfl rfl rfl rfl rfl rfl rfl rfl rfl (fun d1 => ?_)
    refine s_traced ?_
    intro y1 h3 h4 h5
    refine hp_id (st := [.int y1, .int x]) ?_
    refine hp_ic (pc' := 15) (t := 27) (a := x.toInt) (b := y1.toInt) rfl rfl rfl rfl rfl (fun (h6 : y1.toInt ≤ x.toInt) => ?_) (fun (h7 : ¬ (y1.toInt ≤ x.toInt)) => ?_)
    ·
      refine hp_s (pc' := 28) (st' := [.int (-1)]) rfl rfl rfl ?_
      refine hp_ri rfl rfl ?_
      first | (exact k0 (by first | assumption | omega)) | (exact k1 (by first | assumption | omega) (by first | assumption | omega) (by first | assumption | omega)) | (exfalso; omega)
    ·
      refine hp_s (pc' := 16) (st' := [.ref 0]) rfl rfl rfl ?_
      refine hp_getr (k := 12) (w := .ref 57) (pc' := 19) rfl rfl rfl rfl rfl ?_
      refine hp_getr (k := 2) (w := .ref 59) (pc' := 22) rfl rfl rfl rfl rfl ?_
      refine hp_s (pc' := 23) (st' := [.int x, .ref 59]) rfl rfl rfl ?_
      refine hp_ld (t := 100) (v := (rI p 59 x.toInt.toNat)) rfl (.inl rfl) rfl rfl rfl ?_
      intro (g1a : 0 ≤ x.toInt) (g1b : x.toInt < 24)
      refine hp_go (pc' := 28) rfl rfl rfl ?_
      refine hp_ri rfl rfl ?_
      first | (exact k0 (by first | assumption | omega)) | (exact k1 (by first | assumption | omega) (by first | assumption | omega) (by first | assumption | omega)) | (exfalso; omega)
theorem M_trace {ro : List (List Int32)} {n d : Nat} {p : xH} {Q : Option Value → xH → Prop} {x : Int32} {xi : Int} (hx : x.toInt = xi)  (k0 : (¬ (0 ≤ xi ∧ xi < 24 ∧ xi < (rI p 66 47).toInt)) → Q (some (.int (-1))) p) (k1 : (0 ≤ xi) → (xi < 24) → (xi < (rI p 66 47).toInt) → Q (some (.int (rI p 96 xi.toNat))) p) : hP ro n d (12, 2, 1, 1, k262) 0 (lv_args 0 [.ref 66, .int x]) [] p Q := by
  subst hx
  refine hp_id (ls := [(0, .ref 66), (1, .int x)]) ?_
  refine hp_s (pc' := 1) (st' := [.int x]) rfl rfl rfl ?_
  refine hp_if (pc' := 4) (t := 27) (a := x.toInt) rfl rfl rfl rfl (fun (h1 : x.toInt < 0) => ?_) (fun (h2 : ¬ (x.toInt < 0)) => ?_)
  ·
    refine hp_s (pc' := 28) (st' := [.int (-1)]) rfl rfl rfl ?_
    refine hp_ri rfl rfl ?_
    first | (exact k0 (by first | assumption | omega)) | (exact k1 (by first | assumption | omega) (by first | assumption | omega) (by first | assumption | omega)) | (exfalso; omega)
  ·
    refine hp_s (pc' := 5) (st' := [.int x]) rfl rfl rfl ?_
    refine hp_s (pc' := 6) (st' := [.ref 66, .int x]) rfl rfl rfl ?_
    refine hp_get (k := 47) (pc' := 9) (v := (rI p 66 47)) rfl rfl rfl rfl rfl rfl ?_
    refine hp_ic (pc' := 12) (t := 27) (a := x.toInt) (b := (rI p 66 47).toInt) rfl rfl rfl rfl rfl (fun (h3 : (rI p 66 47).toInt ≤ x.toInt) => ?_) (fun (h4 : ¬ ((rI p 66 47).toInt ≤ x.toInt)) => ?_)
    ·
      refine hp_s (pc' := 28) (st' := [.int (-1)]) rfl rfl rfl ?_
      refine hp_ri rfl rfl ?_
      first | (exact k0 (by first | assumption | omega)) | (exact k1 (by first | assumption | omega) (by first | assumption | omega) (by first | assumption | omega)) | (exfalso; omega)
    ·
      refine hp_s (pc' := 13) (st' := [.int x]) rfl rfl rfl ?_
      refine hp_s (pc' := 15) (st' := [.int 24, .int x]) rfl rfl rfl ?_
      refine hp_ic (pc' := 18) (t := 27) (a := x.toInt) (b := 24) rfl rfl rfl rfl (by decide) (fun (h5 : 24 ≤ x.toInt) => ?_) (fun (h6 : ¬ (24 ≤ x.toInt)) => ?_)
      ·
        refine hp_s (pc' := 28) (st' := [.int (-1)]) rfl rfl rfl ?_
        refine hp_ri rfl rfl ?_
        first | (exact k0 (by first | assumption | omega)) | (exact k1 (by first | assumption | omega) (by first | assumption | omega) (by first | assumption | omega)) | (exfalso; omega)
      ·
        refine hp_s (pc' := 19) (st' := [.ref 66]) rfl rfl rfl ?_
        refine hp_getr (k := 46) (w := .ref 96) (pc' := 22) rfl rfl rfl rfl rfl ?_
        refine hp_s (pc' := 23) (st' := [.int x, .ref 96]) rfl rfl rfl ?_
        refine hp_ld (t := 100) (v := (rI p 96 x.toInt.toNat)) rfl (.inl rfl) rfl rfl rfl ?_
        intro (g1a : 0 ≤ x.toInt) (g1b : x.toInt < 24)
        refine hp_go (pc' := 28) rfl rfl rfl ?_
        refine hp_ri rfl rfl ?_
        first | (exact k0 (by first | assumption | omega)) | (exact k1 (by first | assumption | omega) (by first | assumption | omega) (by first | assumption | omega)) | (exfalso; omega)
