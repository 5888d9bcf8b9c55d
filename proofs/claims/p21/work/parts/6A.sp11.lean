/-! contracts of methods, walked -/
/-- a sum over places -/
def hSum (f : Nat → Int32) : Nat → Int32
  | 0 => 0
  | k + 1 => hSum f k + f k
theorem hSum_eq {f g : Nat → Int32} : ∀ {n : Nat}, (∀ j, j < n → f j = g j) → hSum f n = hSum g n
  | 0, _ => rfl
  | n + 1, h => by
    show hSum f n + f n = hSum g n + g n
    rw [hSum_eq (fun j hj => h j (by omega)), h n (by omega)]
theorem s_addSight {ro : List (List Int32)} {n d : Nat} {p : xH} {Q : Option Value → xH → Prop} {m : Int32} {mi : Int} {s : Int32} {si : Int} {l : Int32} {li : Int} (hm : m.toInt = mi) (hs : s.toInt = si) (hl : l.toInt = li)  (k0 : (10 ≤ (rI p 1 5).toInt) → Q (some (.int (-3))) p) (k1 : ∀ z : Int32, ∀ p2 : xH, p2 = (wV (wV (wV (wV p 4 ((rI p 1 5).toInt.toNat) (.int m)) 5 ((rI p 1 5).toInt.toNat) (.int s)) 6 ((rI p 1 5).toInt.toNat) (.int l)) 1 5 (.int (rI p 1 5 + 1))) → (0 ≤ (rI p 1 5).toInt) → ((rI p 1 5).toInt < 10) → (z.toInt = (rI p 1 5).toInt) → Q (some (.int z)) p2) : hP ro n d (5, 4, 1, 1, k60) 0 (lv_args 0 [.ref 1, .int m, .int s, .int l]) [] p Q := by
  subst hm
  subst hs
  subst hl
  refine hp_id (ls := [(0, .ref 1), (1, .int m), (2, .int s), (3, .int l)]) ?_
  refine hp_s (pc' := 1) (st' := [.ref 1]) rfl rfl rfl ?_
  refine hp_get (k := 5) (pc' := 4) (v := (rI p 1 5)) rfl rfl rfl rfl rfl rfl ?_
  refine hp_s (pc' := 6) (st' := [.int 10, .int (rI p 1 5)]) rfl rfl rfl ?_
  refine hp_ic (pc' := 9) (t := 12) (a := (rI p 1 5).toInt) (b := 10) rfl rfl rfl rfl (by decide) (fun (h1 : (rI p 1 5).toInt < 10) => ?_) (fun (h2 : ¬ ((rI p 1 5).toInt < 10)) => ?_)
  ·
    refine hp_s (pc' := 13) (st' := [.ref 1]) rfl rfl rfl ?_
    refine hp_getr (k := 2) (w := .ref 4) (pc' := 16) rfl rfl rfl rfl rfl ?_
    refine hp_s (pc' := 17) (st' := [.ref 1, .ref 4]) rfl rfl rfl ?_
    refine hp_get (k := 5) (pc' := 20) (v := (rI p 1 5)) rfl rfl rfl rfl rfl rfl ?_
    refine hp_s (pc' := 21) (st' := [.int m, .int (rI p 1 5), .ref 4]) rfl rfl rfl ?_
    refine hp_st (t := 100) rfl (.inl rfl) rfl rfl ?_
    intro p1 wp1 (p1a : 0 ≤ (rI p 1 5).toInt) (p1b : (rI p 1 5).toInt < 10) ep1
    refine hp_s (pc' := 23) (st' := [.ref 1]) rfl rfl rfl ?_
    refine hp_getr (k := 3) (w := .ref 5) (pc' := 26) rfl rfl rfl rfl rfl ?_
    refine hp_s (pc' := 27) (st' := [.ref 1, .ref 5]) rfl rfl rfl ?_
    refine hp_get (k := 5) (pc' := 30) (v := (rI p 1 5)) rfl rfl rfl rfl rfl (by rw [ep1, rI_o (by decide)]) ?_
    refine hp_s (pc' := 31) (st' := [.int s, .int (rI p 1 5), .ref 5]) rfl rfl rfl ?_
    refine hp_st (t := 100) rfl (.inl rfl) rfl rfl ?_
    intro p2 wp2 (p2a : 0 ≤ (rI p 1 5).toInt) (p2b : (rI p 1 5).toInt < 10) ep2
    refine hp_s (pc' := 33) (st' := [.ref 1]) rfl rfl rfl ?_
    refine hp_getr (k := 4) (w := .ref 6) (pc' := 36) rfl rfl rfl rfl rfl ?_
    refine hp_s (pc' := 37) (st' := [.ref 1, .ref 6]) rfl rfl rfl ?_
    refine hp_get (k := 5) (pc' := 40) (v := (rI p 1 5)) rfl rfl rfl rfl rfl (by rw [ep2, rI_o (by decide), ep1, rI_o (by decide)]) ?_
    refine hp_s (pc' := 41) (st' := [.int l, .int (rI p 1 5), .ref 6]) rfl rfl rfl ?_
    refine hp_st (t := 100) rfl (.inl rfl) rfl rfl ?_
    intro p3 wp3 (p3a : 0 ≤ (rI p 1 5).toInt) (p3b : (rI p 1 5).toInt < 10) ep3
    refine hp_s (pc' := 43) (st' := [.ref 1]) rfl rfl rfl ?_
    refine hp_s (pc' := 44) (st' := [.ref 1, .ref 1]) rfl rfl rfl ?_
    refine hp_get (k := 5) (pc' := 47) (v := (rI p 1 5)) rfl rfl rfl rfl rfl (by rw [ep3, rI_o (by decide), ep2, rI_o (by decide), ep1, rI_o (by decide)]) ?_
    refine hp_s (pc' := 48) (st' := [.int 1, .int (rI p 1 5), .ref 1]) rfl rfl rfl ?_
    refine hp_z (pc' := 49) (e := (rI p 1 5) + 1) (st' := [.ref 1]) rfl rfl rfl ?_
    intro z1 hz1
    have ez1 := i_add hz1 (show (rI p 1 5).toInt = (rI p 1 5).toInt from rfl) (show (1 : Int32).toInt = 1 from by decide)
    refine hp_put (k := 5) (pc' := 52) rfl rfl rfl rfl rfl ?_
    intro p4 wp4 ep4
    refine hp_s (pc' := 53) (st' := [.ref 1]) rfl rfl rfl ?_
    refine hp_get (k := 5) (pc' := 56) (v := z1) rfl rfl rfl rfl rfl (by rw [ep4, rI_eq wp4 (by decide)]) ?_
    refine hp_s (pc' := 57) (st' := [.int 1, .int z1]) rfl rfl rfl ?_
    refine hp_z (pc' := 58) (e := z1 - 1) (st' := []) rfl rfl rfl ?_
    intro z2 hz2
    have ez2 := i_sub hz2 (show z1.toInt = z1.toInt from rfl) (show (1 : Int32).toInt = 1 from by decide)
    refine hp_ri rfl rfl ?_
    first | (exact k0 (by first | assumption | omega)) | (exact k1 _ _ (by subst_vars; rfl) (by first | assumption | omega) (by first | assumption | omega) (by first | assumption | omega)) | (exfalso; omega)
  ·
    refine hp_s (pc' := 11) (st' := [.int (-3)]) rfl rfl rfl ?_
    refine hp_ri rfl rfl ?_
    first | (exact k0 (by first | assumption | omega)) | (exact k1 _ _ (by subst_vars; rfl) (by first | assumption | omega) (by first | assumption | omega) (by first | assumption | omega)) | (exfalso; omega)
theorem X_sight {ro : List (List Int32)} {n d : Nat} {p : xH} {Q : Option Value → xH → Prop} {m : Int32} {mi : Int} {l : Int32} {li : Int} (hm : m.toInt = mi) (hl : l.toInt = li)  (k0 : (¬ (0 ≤ mi ∧ mi / 10 < 30 ∧ mi % 10 < 5 ∧ 0 ≤ li ∧ li ≤ 63)) → Q (some (.int (-1))) p) (k1 : (0 ≤ mi) → (mi / 10 < 30) → (mi % 10 < 5) → (0 ≤ li) → (li ≤ 63) → (10 ≤ (rI p 1 5).toInt) → Q (some (.int (-3))) p) (k2 : ∀ z : Int32, ∀ p2 : xH, p2 = (wV (wV (wV (wV p 4 ((rI p 1 5).toInt.toNat) (.int (m / 10))) 5 ((rI p 1 5).toInt.toNat) (.int (m - m / 10 * 10))) 6 ((rI p 1 5).toInt.toNat) (.int l)) 1 5 (.int (rI p 1 5 + 1))) → (0 ≤ mi) → (mi / 10 < 30) → (mi % 10 < 5) → (0 ≤ li) → (li ≤ 63) → (0 ≤ (rI p 1 5).toInt) → ((rI p 1 5).toInt < 10) → (z.toInt = (rI p 1 5).toInt) → Q (some (.int z)) p2) : hP ro n d (11, 3, 1, 1, k152) 0 (lv_args 0 [.ref 0, .int m, .int l]) [] p Q := by
  subst hm
  subst hl
  refine hp_id (ls := [(0, .ref 0), (1, .int m), (2, .int l)]) ?_
  refine hp_s (pc' := 1) (st' := [.int m]) rfl rfl rfl ?_
  refine hp_if (pc' := 4) (t := 30) (a := m.toInt) rfl rfl rfl rfl (fun (h1 : m.toInt < 0) => ?_) (fun (h2 : ¬ (m.toInt < 0)) => ?_)
  ·
    refine hp_s (pc' := 31) (st' := [.int (-1)]) rfl rfl rfl ?_
    refine hp_ri rfl rfl ?_
    first | (exact k0 (by first | assumption | omega)) | (exact k2 _ _ (by subst_vars; repeat' (first | with_reducible rfl | omega | rfl | congr 1)) (by first | assumption | omega) (by first | assumption | omega) (by first | assumption | omega) (by first | assumption | omega) (by first | assumption | omega) (by first | assumption | omega) (by first | assumption | omega) (by first | assumption | omega)) | (exfalso; omega)
  ·
    refine hp_s (pc' := 5) (st' := [.int m]) rfl rfl rfl ?_
    refine hp_s (pc' := 7) (st' := [.int 10, .int m]) rfl rfl rfl ?_
    refine hp_z (pc' := 8) (e := m / 10) (st' := []) rfl rfl rfl ?_
    intro z1 hz1
    have ez1 := i_div hz1 (show m.toInt = m.toInt from rfl) (show (10 : Int32).toInt = 10 from by decide) (by decide)
    refine hp_cs (kd := 0) (as := [.int z1]) (rest := []) (pc' := 11) rfl rfl rfl rfl rfl rfl rfl (fun d1 => ?_)
    refine s_isMinute (xi := (m.toInt / 10)) (by omega) ?_ ?_
    ·
      intro h3 h4
      refine hp_id (st := [.int 1]) ?_
      refine hp_go (pc' := 14) rfl rfl rfl ?_
      refine hp_s (pc' := 15) (st' := [.int m]) rfl rfl rfl ?_
      refine hp_s (pc' := 17) (st' := [.int 10, .int m]) rfl rfl rfl ?_
      refine hp_z (pc' := 18) (e := m - m / 10 * 10) (st' := []) rfl rfl rfl ?_
      intro z2 hz2
      have ez2 := i_rem hz2 (show m.toInt = m.toInt from rfl) (show (10 : Int32).toInt = 10 from by decide) (by decide)
      refine hp_s (pc' := 19) (st' := [.int 5, .int z2]) rfl rfl rfl ?_
      refine hp_ic (pc' := 22) (t := 30) (a := (m.toInt % 10)) (b := 5) rfl rfl rfl (by omega) (by decide) (fun (h5 : 5 ≤ (m.toInt % 10)) => ?_) (fun (h6 : ¬ (5 ≤ (m.toInt % 10))) => ?_)
      ·
        refine hp_s (pc' := 31) (st' := [.int (-1)]) rfl rfl rfl ?_
        refine hp_ri rfl rfl ?_
        first | (exact k0 (by first | assumption | omega)) | (exact k2 _ _ (by subst_vars; repeat' (first | with_reducible rfl | omega | rfl | congr 1)) (by first | assumption | omega) (by first | assumption | omega) (by first | assumption | omega) (by first | assumption | omega) (by first | assumption | omega) (by first | assumption | omega) (by first | assumption | omega) (by first | assumption | omega)) | (exfalso; omega)
      ·
        refine hp_s (pc' := 23) (st' := [.int l]) rfl rfl rfl ?_
        refine hp_i2l (pc' := 24) rfl rfl ?_
        intro z3 hz3 ez3
        refine hp_cs (kd := 0) (as := [.long z3]) (rest := []) (pc' := 27) rfl rfl rfl rfl rfl rfl rfl (fun d2 => ?_)
        refine s_isParts (xi := l.toInt) ez3 ?_ ?_
        ·
          intro h7 h8
          refine hp_id (st := [.int 1]) ?_
          refine hp_go (pc' := 32) rfl rfl rfl ?_
          refine hp_s (pc' := 33) (st' := [.ref 0]) rfl rfl rfl ?_
          refine hp_getr (k := 0) (w := .ref 1) (pc' := 36) rfl rfl rfl rfl rfl ?_
          refine hp_s (pc' := 37) (st' := [.int m, .ref 1]) rfl rfl rfl ?_
          refine hp_s (pc' := 39) (st' := [.int 10, .int m, .ref 1]) rfl rfl rfl ?_
          refine hp_z (pc' := 40) (e := m / 10) (st' := [.ref 1]) rfl rfl rfl ?_
          intro z4 hz4
          have ez4 := i_div hz4 (show m.toInt = m.toInt from rfl) (show (10 : Int32).toInt = 10 from by decide) (by decide)
          refine hp_s (pc' := 41) (st' := [.int m, .int z4, .ref 1]) rfl rfl rfl ?_
          refine hp_s (pc' := 43) (st' := [.int 10, .int m, .int z4, .ref 1]) rfl rfl rfl ?_
          refine hp_z (pc' := 44) (e := m - m / 10 * 10) (st' := [.int z4, .ref 1]) rfl rfl rfl ?_
          intro z5 hz5
          have ez5 := i_rem hz5 (show m.toInt = m.toInt from rfl) (show (10 : Int32).toInt = 10 from by decide) (by decide)
          refine hp_s (pc' := 45) (st' := [.int l, .int z5, .int z4, .ref 1]) rfl rfl rfl ?_
          refine hp_cv (r := 1) (o := 5) (kd := 1) (as := [.int z4, .int z5, .int l]) (rest := []) (pc' := 48) rfl rfl rfl rfl rfl rfl rfl rfl rfl (fun d3 => ?_)
          refine s_addSight (mi := (m.toInt / 10)) (by omega) (si := (m.toInt % 10)) (by omega) (li := l.toInt) rfl ?_ ?_
          ·
            intro h9
            refine hp_id (st := [.int (-3)]) ?_
            refine hp_ri rfl rfl ?_
            first | (exact k1 (by first | assumption | omega) (by first | assumption | omega) (by first | assumption | omega) (by first | assumption | omega) (by first | assumption | omega) (by first | assumption | omega)) | (exact k2 _ _ (by subst_vars; repeat' (first | with_reducible rfl | omega | rfl | congr 1)) (by first | assumption | omega) (by first | assumption | omega) (by first | assumption | omega) (by first | assumption | omega) (by first | assumption | omega) (by first | assumption | omega) (by first | assumption | omega) (by first | assumption | omega)) | (exfalso; omega)
          ·
            intro y1 p1 ep1 h10 h11 h12
            refine hp_id (st := [.int y1]) ?_
            refine hp_ri rfl rfl ?_
            first | (exact k0 (by first | assumption | omega)) | (exact k1 (by first | assumption | omega) (by first | assumption | omega) (by first | assumption | omega) (by first | assumption | omega) (by first | assumption | omega) (by first | assumption | omega)) | (exact k2 _ _ (by subst_vars; repeat' (first | with_reducible rfl | omega | rfl | congr 1)) (by first | assumption | omega) (by first | assumption | omega) (by first | assumption | omega) (by first | assumption | omega) (by first | assumption | omega) (by first | assumption | omega) (by first | assumption | omega) (by first | assumption | omega)) | (exfalso; omega)
        ·
          intro h13
          refine hp_id (st := [.int 0]) ?_
          refine hp_go (pc' := 30) rfl rfl rfl ?_
          refine hp_s (pc' := 31) (st' := [.int (-1)]) rfl rfl rfl ?_
          refine hp_ri rfl rfl ?_
          first | (exact k0 (by first | assumption | omega)) | (exact k2 _ _ (by subst_vars; repeat' (first | with_reducible rfl | omega | rfl | congr 1)) (by first | assumption | omega) (by first | assumption | omega) (by first | assumption | omega) (by first | assumption | omega) (by first | assumption | omega) (by first | assumption | omega) (by first | assumption | omega) (by first | assumption | omega)) | (exfalso; omega)
    ·
      intro h14
      refine hp_id (st := [.int 0]) ?_
      refine hp_go (pc' := 30) rfl rfl rfl ?_
      refine hp_s (pc' := 31) (st' := [.int (-1)]) rfl rfl rfl ?_
      refine hp_ri rfl rfl ?_
      first | (exact k0 (by first | assumption | omega)) | (exact k2 _ _ (by subst_vars; repeat' (first | with_reducible rfl | omega | rfl | congr 1)) (by first | assumption | omega) (by first | assumption | omega) (by first | assumption | omega) (by first | assumption | omega) (by first | assumption | omega) (by first | assumption | omega) (by first | assumption | omega) (by first | assumption | omega)) | (exfalso; omega)
theorem M_sight {ro : List (List Int32)} {n d : Nat} {p : xH} {Q : Option Value → xH → Prop} {m : Int32} {mi : Int} {l : Int32} {li : Int} (hm : m.toInt = mi) (hl : l.toInt = li) (pre0 : 0 ≤ (rI p 66 34).toInt) (pre1 : (rI p 66 34).toInt ≤ 10) (k0 : (¬ (0 ≤ mi ∧ mi / 10 < 30 ∧ mi % 10 < 5 ∧ 0 ≤ li ∧ li ≤ 63)) → Q (some (.int (-1))) p) (k1 : (0 ≤ mi) → (mi / 10 < 30) → (mi % 10 < 5) → (0 ≤ li) → (li ≤ 63) → ((rI p 66 34).toInt = 10) → Q (some (.int (-3))) p) (k2 : ∀ z : Int32, ∀ p2 : xH, p2 = (wV (wV (wV (wV p 89 ((3 * (rI p 66 34).toInt).toNat) (.int (m / 10))) 89 ((3 * (rI p 66 34).toInt + 1).toNat) (.int (m - m / 10 * 10))) 89 ((3 * (rI p 66 34).toInt + 2).toNat) (.int l)) 66 34 (.int (rI p 66 34 + 1))) → (0 ≤ mi) → (mi / 10 < 30) → (mi % 10 < 5) → (0 ≤ li) → (li ≤ 63) → (0 ≤ (rI p 66 34).toInt) → ((rI p 66 34).toInt < 10) → (z.toInt = (rI p 66 34).toInt) → Q (some (.int z)) p2) : hP ro n d (12, 3, 1, 1, k239) 0 (lv_args 0 [.ref 66, .int m, .int l]) [] p Q := by
  subst hm
  subst hl
  refine hp_id (ls := [(0, .ref 66), (1, .int m), (2, .int l)]) ?_
  refine hp_s (pc' := 1) (st' := [.int m]) rfl rfl rfl ?_
  refine hp_if (pc' := 4) (t := 29) (a := m.toInt) rfl rfl rfl rfl (fun (h1 : m.toInt < 0) => ?_) (fun (h2 : ¬ (m.toInt < 0)) => ?_)
  ·
    refine hp_s (pc' := 30) (st' := [.int (-1)]) rfl rfl rfl ?_
    refine hp_ri rfl rfl ?_
    first | (exact k0 (by first | assumption | omega)) | (exact k2 _ _ (by subst_vars; repeat' (first | with_reducible rfl | omega | rfl | congr 1)) (by first | assumption | omega) (by first | assumption | omega) (by first | assumption | omega) (by first | assumption | omega) (by first | assumption | omega) (by first | assumption | omega) (by first | assumption | omega) (by first | assumption | omega)) | (exfalso; omega)
  ·
    refine hp_s (pc' := 5) (st' := [.int m]) rfl rfl rfl ?_
    refine hp_s (pc' := 7) (st' := [.int 10, .int m]) rfl rfl rfl ?_
    refine hp_z (pc' := 8) (e := m / 10) (st' := []) rfl rfl rfl ?_
    intro z1 hz1
    have ez1 := i_div hz1 (show m.toInt = m.toInt from rfl) (show (10 : Int32).toInt = 10 from by decide) (by decide)
    refine hp_s (pc' := 10) (st' := [.int 30, .int z1]) rfl rfl rfl ?_
    refine hp_ic (pc' := 13) (t := 29) (a := (m.toInt / 10)) (b := 30) rfl rfl rfl (by omega) (by decide) (fun (h3 : 30 ≤ (m.toInt / 10)) => ?_) (fun (h4 : ¬ (30 ≤ (m.toInt / 10))) => ?_)
    ·
      refine hp_s (pc' := 30) (st' := [.int (-1)]) rfl rfl rfl ?_
      refine hp_ri rfl rfl ?_
      first | (exact k0 (by first | assumption | omega)) | (exact k2 _ _ (by subst_vars; repeat' (first | with_reducible rfl | omega | rfl | congr 1)) (by first | assumption | omega) (by first | assumption | omega) (by first | assumption | omega) (by first | assumption | omega) (by first | assumption | omega) (by first | assumption | omega) (by first | assumption | omega) (by first | assumption | omega)) | (exfalso; omega)
    ·
      refine hp_s (pc' := 14) (st' := [.int m]) rfl rfl rfl ?_
      refine hp_s (pc' := 16) (st' := [.int 10, .int m]) rfl rfl rfl ?_
      refine hp_z (pc' := 17) (e := m - m / 10 * 10) (st' := []) rfl rfl rfl ?_
      intro z2 hz2
      have ez2 := i_rem hz2 (show m.toInt = m.toInt from rfl) (show (10 : Int32).toInt = 10 from by decide) (by decide)
      refine hp_s (pc' := 18) (st' := [.int 5, .int z2]) rfl rfl rfl ?_
      refine hp_ic (pc' := 21) (t := 29) (a := (m.toInt % 10)) (b := 5) rfl rfl rfl (by omega) (by decide) (fun (h5 : 5 ≤ (m.toInt % 10)) => ?_) (fun (h6 : ¬ (5 ≤ (m.toInt % 10))) => ?_)
      ·
        refine hp_s (pc' := 30) (st' := [.int (-1)]) rfl rfl rfl ?_
        refine hp_ri rfl rfl ?_
        first | (exact k0 (by first | assumption | omega)) | (exact k2 _ _ (by subst_vars; repeat' (first | with_reducible rfl | omega | rfl | congr 1)) (by first | assumption | omega) (by first | assumption | omega) (by first | assumption | omega) (by first | assumption | omega) (by first | assumption | omega) (by first | assumption | omega) (by first | assumption | omega) (by first | assumption | omega)) | (exfalso; omega)
      ·
        refine hp_s (pc' := 22) (st' := [.int l]) rfl rfl rfl ?_
        refine hp_i2l (pc' := 23) rfl rfl ?_
        intro z3 hz3 ez3
        refine hp_cs (kd := 0) (as := [.long z3]) (rest := []) (pc' := 26) rfl rfl rfl rfl rfl rfl rfl (fun d1 => ?_)
        refine s_areLooks (xi := l.toInt) ez3 ?_ ?_
        ·
          intro h7 h8
          refine hp_id (st := [.int 1]) ?_
          refine hp_go (pc' := 31) rfl rfl rfl ?_
          refine hp_s (pc' := 32) (st' := [.ref 66]) rfl rfl rfl ?_
          refine hp_get (k := 34) (pc' := 35) (v := (rI p 66 34)) rfl rfl rfl rfl rfl rfl ?_
          refine hp_s (pc' := 37) (st' := [.int 10, .int (rI p 66 34)]) rfl rfl rfl ?_
          refine hp_ic (pc' := 40) (t := 43) (a := (rI p 66 34).toInt) (b := 10) rfl rfl rfl rfl (by decide) (fun (h9 : (rI p 66 34).toInt ≠ 10) => ?_) (fun (h10 : ¬ ((rI p 66 34).toInt ≠ 10)) => ?_)
          ·
            refine hp_s (pc' := 44) (st' := [.ref 66]) rfl rfl rfl ?_
            refine hp_getr (k := 35) (w := .ref 89) (pc' := 47) rfl rfl rfl rfl rfl ?_
            refine hp_s (pc' := 48) (st' := [.int 3, .ref 89]) rfl rfl rfl ?_
            refine hp_s (pc' := 49) (st' := [.ref 66, .int 3, .ref 89]) rfl rfl rfl ?_
            refine hp_get (k := 34) (pc' := 52) (v := (rI p 66 34)) rfl rfl rfl rfl rfl rfl ?_
            refine hp_z (pc' := 53) (e := 3 * (rI p 66 34)) (st' := [.ref 89]) rfl rfl rfl ?_
            intro z4 hz4
            have ez4 := i_mul hz4 (show (3 : Int32).toInt = 3 from by decide) (show (rI p 66 34).toInt = (rI p 66 34).toInt from rfl)
            refine hp_s (pc' := 54) (st' := [.int m, .int z4, .ref 89]) rfl rfl rfl ?_
            refine hp_s (pc' := 56) (st' := [.int 10, .int m, .int z4, .ref 89]) rfl rfl rfl ?_
            refine hp_z (pc' := 57) (e := m / 10) (st' := [.int z4, .ref 89]) rfl rfl rfl ?_
            intro z5 hz5
            have ez5 := i_div hz5 (show m.toInt = m.toInt from rfl) (show (10 : Int32).toInt = 10 from by decide) (by decide)
            refine hp_st (t := 100) rfl (.inl rfl) rfl rfl ?_
            intro p1 wp1 (p1a : 0 ≤ z4.toInt) (p1b : z4.toInt < 30) ep1
            refine hp_s (pc' := 59) (st' := [.ref 66]) rfl rfl rfl ?_
            refine hp_getr (k := 35) (w := .ref 89) (pc' := 62) rfl rfl rfl rfl rfl ?_
            refine hp_s (pc' := 63) (st' := [.int 3, .ref 89]) rfl rfl rfl ?_
            refine hp_s (pc' := 64) (st' := [.ref 66, .int 3, .ref 89]) rfl rfl rfl ?_
            refine hp_get (k := 34) (pc' := 67) (v := (rI p 66 34)) rfl rfl rfl rfl rfl (by rw [ep1, rI_o (by decide)]) ?_
            refine hp_z (pc' := 68) (e := 3 * (rI p 66 34)) (st' := [.ref 89]) rfl rfl rfl ?_
            intro z6 hz6
            have ez6 := i_mul hz6 (show (3 : Int32).toInt = 3 from by decide) (show (rI p 66 34).toInt = (rI p 66 34).toInt from rfl)
            refine hp_s (pc' := 69) (st' := [.int 1, .int z6, .ref 89]) rfl rfl rfl ?_
            refine hp_z (pc' := 70) (e := z6 + 1) (st' := [.ref 89]) rfl rfl rfl ?_
            intro z7 hz7
            have ez7 := i_add hz7 (show z6.toInt = z6.toInt from rfl) (show (1 : Int32).toInt = 1 from by decide)
            refine hp_s (pc' := 71) (st' := [.int m, .int z7, .ref 89]) rfl rfl rfl ?_
            refine hp_s (pc' := 73) (st' := [.int 10, .int m, .int z7, .ref 89]) rfl rfl rfl ?_
            refine hp_z (pc' := 74) (e := m - m / 10 * 10) (st' := [.int z7, .ref 89]) rfl rfl rfl ?_
            intro z8 hz8
            have ez8 := i_rem hz8 (show m.toInt = m.toInt from rfl) (show (10 : Int32).toInt = 10 from by decide) (by decide)
            refine hp_st (t := 100) rfl (.inl rfl) rfl rfl ?_
            intro p2 wp2 (p2a : 0 ≤ z7.toInt) (p2b : z7.toInt < 30) ep2
            refine hp_s (pc' := 76) (st' := [.ref 66]) rfl rfl rfl ?_
            refine hp_getr (k := 35) (w := .ref 89) (pc' := 79) rfl rfl rfl rfl rfl ?_
            refine hp_s (pc' := 80) (st' := [.int 3, .ref 89]) rfl rfl rfl ?_
            refine hp_s (pc' := 81) (st' := [.ref 66, .int 3, .ref 89]) rfl rfl rfl ?_
            refine hp_get (k := 34) (pc' := 84) (v := (rI p 66 34)) rfl rfl rfl rfl rfl (by rw [ep2, rI_o (by decide), ep1, rI_o (by decide)]) ?_
            refine hp_z (pc' := 85) (e := 3 * (rI p 66 34)) (st' := [.ref 89]) rfl rfl rfl ?_
            intro z9 hz9
            have ez9 := i_mul hz9 (show (3 : Int32).toInt = 3 from by decide) (show (rI p 66 34).toInt = (rI p 66 34).toInt from rfl)
            refine hp_s (pc' := 86) (st' := [.int 2, .int z9, .ref 89]) rfl rfl rfl ?_
            refine hp_z (pc' := 87) (e := z9 + 2) (st' := [.ref 89]) rfl rfl rfl ?_
            intro z10 hz10
            have ez10 := i_add hz10 (show z9.toInt = z9.toInt from rfl) (show (2 : Int32).toInt = 2 from by decide)
            refine hp_s (pc' := 88) (st' := [.int l, .int z10, .ref 89]) rfl rfl rfl ?_
            refine hp_st (t := 100) rfl (.inl rfl) rfl rfl ?_
            intro p3 wp3 (p3a : 0 ≤ z10.toInt) (p3b : z10.toInt < 30) ep3
            refine hp_s (pc' := 90) (st' := [.ref 66]) rfl rfl rfl ?_
            refine hp_s (pc' := 91) (st' := [.ref 66, .ref 66]) rfl rfl rfl ?_
            refine hp_get (k := 34) (pc' := 94) (v := (rI p 66 34)) rfl rfl rfl rfl rfl (by rw [ep3, rI_o (by decide), ep2, rI_o (by decide), ep1, rI_o (by decide)]) ?_
            refine hp_s (pc' := 95) (st' := [.int 1, .int (rI p 66 34), .ref 66]) rfl rfl rfl ?_
            refine hp_z (pc' := 96) (e := (rI p 66 34) + 1) (st' := [.ref 66]) rfl rfl rfl ?_
            intro z11 hz11
            have ez11 := i_add hz11 (show (rI p 66 34).toInt = (rI p 66 34).toInt from rfl) (show (1 : Int32).toInt = 1 from by decide)
            refine hp_put (k := 34) (pc' := 99) rfl rfl rfl rfl rfl ?_
            intro p4 wp4 ep4
            refine hp_s (pc' := 100) (st' := [.ref 66]) rfl rfl rfl ?_
            refine hp_get (k := 34) (pc' := 103) (v := z11) rfl rfl rfl rfl rfl (by rw [ep4, rI_eq wp4 (by decide)]) ?_
            refine hp_s (pc' := 104) (st' := [.int 1, .int z11]) rfl rfl rfl ?_
            refine hp_z (pc' := 105) (e := z11 - 1) (st' := []) rfl rfl rfl ?_
            intro z12 hz12
            have ez12 := i_sub hz12 (show z11.toInt = z11.toInt from rfl) (show (1 : Int32).toInt = 1 from by decide)
            refine hp_ri rfl rfl ?_
            first | (exact k0 (by first | assumption | omega)) | (exact k1 (by first | assumption | omega) (by first | assumption | omega) (by first | assumption | omega) (by first | assumption | omega) (by first | assumption | omega) (by first | assumption | omega)) | (exact k2 _ _ (by subst_vars; repeat' (first | with_reducible rfl | omega | rfl | congr 1)) (by first | assumption | omega) (by first | assumption | omega) (by first | assumption | omega) (by first | assumption | omega) (by first | assumption | omega) (by first | assumption | omega) (by first | assumption | omega) (by first | assumption | omega)) | (exfalso; omega)
          ·
            refine hp_s (pc' := 42) (st' := [.int (-3)]) rfl rfl rfl ?_
            refine hp_ri rfl rfl ?_
            first | (exact k1 (by first | assumption | omega) (by first | assumption | omega) (by first | assumption | omega) (by first | assumption | omega) (by first | assumption | omega) (by first | assumption | omega)) | (exact k2 _ _ (by subst_vars; repeat' (first | with_reducible rfl | omega | rfl | congr 1)) (by first | assumption | omega) (by first | assumption | omega) (by first | assumption | omega) (by first | assumption | omega) (by first | assumption | omega) (by first | assumption | omega) (by first | assumption | omega) (by first | assumption | omega)) | (exfalso; omega)
        ·
          intro h11
          refine hp_id (st := [.int 0]) ?_
          refine hp_go (pc' := 29) rfl rfl rfl ?_
          refine hp_s (pc' := 30) (st' := [.int (-1)]) rfl rfl rfl ?_
          refine hp_ri rfl rfl ?_
          first | (exact k0 (by first | assumption | omega)) | (exact k2 _ _ (by subst_vars; repeat' (first | with_reducible rfl | omega | rfl | congr 1)) (by first | assumption | omega) (by first | assumption | omega) (by first | assumption | omega) (by first | assumption | omega) (by first | assumption | omega) (by first | assumption | omega) (by first | assumption | omega) (by first | assumption | omega)) | (exfalso; omega)
theorem lp_13 {ro : List (List Int32)} {d : Nat} {Q : Option Value → xH → Prop}  {p : xH} (g0 : 0 ≤ (rI p 13 7).toInt) (g1 : (rI p 13 7).toInt ≤ 7) (K : Q (some (.int (hSum (fun j => rI p 17 j) (rI p 13 7).toInt.toNat))) p) : ∀ (n : Nat) (k : Int32) (s : Int32), (0 ≤ k.toInt) → (k.toInt ≤ (rI p 13 7).toInt) → (s = hSum (fun j => rI p 17 j) k.toInt.toNat) → hP ro n d (1, 3, 1, 1, k13) 4 [(2, .int k), (1, .int s), (0, .ref 13)] [] p Q := by
  intro n
  induction n with
  | zero => intros; exact hp_0
  | succ n ih =>
    intro k s h1 h2 hs
    refine hp_s1 (pc' := 5) (st' := [.int k]) rfl rfl rfl ?_
    refine hp_s (pc' := 6) (st' := [.ref 13, .int k]) rfl rfl rfl ?_
    refine hp_get (k := 7) (pc' := 9) (v := (rI p 13 7)) rfl rfl rfl rfl rfl rfl ?_
    refine hp_ic (pc' := 12) (t := 27) (a := k.toInt) (b := (rI p 13 7).toInt) rfl rfl rfl rfl rfl (fun (h1 : (rI p 13 7).toInt ≤ k.toInt) => ?_) (fun (h2 : ¬ ((rI p 13 7).toInt ≤ k.toInt)) => ?_)
    ·
      refine hp_s (pc' := 28) (st' := [.int s]) rfl rfl rfl ?_
      refine hp_ri rfl rfl ?_
      rw [hs, show k.toInt.toNat = (rI p 13 7).toInt.toNat by omega]; exact K
    ·
      refine hp_s (pc' := 13) (st' := [.int s]) rfl rfl rfl ?_
      refine hp_s (pc' := 14) (st' := [.ref 13, .int s]) rfl rfl rfl ?_
      refine hp_getr (k := 4) (w := .ref 17) (pc' := 17) rfl rfl rfl rfl rfl ?_
      refine hp_s (pc' := 18) (st' := [.int k, .ref 17, .int s]) rfl rfl rfl ?_
      refine hp_ld (t := 100) (v := (rI p 17 k.toInt.toNat)) rfl (.inl rfl) rfl rfl rfl ?_
      intro (g1a : 0 ≤ k.toInt) (g1b : k.toInt < 7)
      refine hp_z (pc' := 20) (e := s + (rI p 17 k.toInt.toNat)) (st' := []) rfl rfl rfl ?_
      intro z1 hz1
      have ez1 := i_add hz1 (show s.toInt = s.toInt from rfl) (show (rI p 17 k.toInt.toNat).toInt = (rI p 17 k.toInt.toNat).toInt from rfl)
      refine hp_s (pc' := 21) (ls' := [(1, .int z1), (2, .int k), (0, .ref 13)]) (st' := []) rfl rfl rfl ?_
      refine hp_inc (L := fun z => [(2, .int z), (1, .int z1), (0, .ref 13)]) (pc' := 24) rfl rfl rfl (fun _ => rfl) rfl ?_
      intro z2 hz2
      have ez2 := i_add hz2 (show k.toInt = k.toInt from rfl) (show (Int32.ofInt 1).toInt = 1 from by decide)
      refine hp_go (pc' := 4) rfl rfl rfl ?_
      refine ih _ _ (by omega) (by omega) ?_
      rw [show z2.toInt.toNat = k.toInt.toNat + 1 by omega]
      show z1 = hSum _ _ + _
      rw [hz1, hs]
theorem s_errandsOfAll {ro : List (List Int32)} {n d : Nat} {p : xH} {Q : Option Value → xH → Prop}  (pre0 : 0 ≤ (rI p 13 7).toInt) (pre1 : (rI p 13 7).toInt ≤ 7) (k0 : Q (some (.int (hSum (fun j => rI p 17 j) (rI p 13 7).toInt.toNat))) p) : hP ro n d (1, 3, 1, 1, k13) 0 (lv_args 0 [.ref 13]) [] p Q := by
  refine hp_id (ls := [(0, .ref 13)]) ?_
  refine hp_s (pc' := 1) (st' := [.int 0]) rfl rfl rfl ?_
  refine hp_s (pc' := 2) (ls' := [(1, .int 0), (0, .ref 13)]) (st' := []) rfl rfl rfl ?_
  refine hp_s (pc' := 3) (st' := [.int 0]) rfl rfl rfl ?_
  refine hp_s (pc' := 4) (ls' := [(2, .int 0), (1, .int 0), (0, .ref 13)]) (st' := []) rfl rfl rfl ?_
  exact lp_13 (by omega) (by omega) k0 n 0 0 (by decide) (by have h00 : (0 : Int32).toInt = 0 := (by decide); omega) rfl
theorem lp_251 {ro : List (List Int32)} {d : Nat} {Q : Option Value → xH → Prop}  {p : xH} (g0 : 0 ≤ (rI p 66 6).toInt) (g1 : (rI p 66 6).toInt ≤ 7) (K : Q (some (.int (hSum (fun j => rI p 72 j) (rI p 66 6).toInt.toNat))) p) : ∀ (n : Nat) (k : Int32) (s : Int32), (0 ≤ k.toInt) → (k.toInt ≤ (rI p 66 6).toInt) → (s = hSum (fun j => rI p 72 j) k.toInt.toNat) → hP ro n d (12, 3, 1, 1, k251) 4 [(2, .int k), (1, .int s), (0, .ref 66)] [] p Q := by
  intro n
  induction n with
  | zero => intros; exact hp_0
  | succ n ih =>
    intro k s h1 h2 hs
    refine hp_s1 (pc' := 5) (st' := [.int k]) rfl rfl rfl ?_
    refine hp_s (pc' := 6) (st' := [.ref 66, .int k]) rfl rfl rfl ?_
    refine hp_get (k := 6) (pc' := 9) (v := (rI p 66 6)) rfl rfl rfl rfl rfl rfl ?_
    refine hp_ic (pc' := 12) (t := 27) (a := k.toInt) (b := (rI p 66 6).toInt) rfl rfl rfl rfl rfl (fun (h1 : (rI p 66 6).toInt ≤ k.toInt) => ?_) (fun (h2 : ¬ ((rI p 66 6).toInt ≤ k.toInt)) => ?_)
    ·
      refine hp_s (pc' := 28) (st' := [.int s]) rfl rfl rfl ?_
      refine hp_ri rfl rfl ?_
      rw [hs, show k.toInt.toNat = (rI p 66 6).toInt.toNat by omega]; exact K
    ·
      refine hp_s (pc' := 13) (st' := [.int s]) rfl rfl rfl ?_
      refine hp_s (pc' := 14) (st' := [.ref 66, .int s]) rfl rfl rfl ?_
      refine hp_getr (k := 8) (w := .ref 72) (pc' := 17) rfl rfl rfl rfl rfl ?_
      refine hp_s (pc' := 18) (st' := [.int k, .ref 72, .int s]) rfl rfl rfl ?_
      refine hp_ld (t := 100) (v := (rI p 72 k.toInt.toNat)) rfl (.inl rfl) rfl rfl rfl ?_
      intro (g1a : 0 ≤ k.toInt) (g1b : k.toInt < 7)
      refine hp_z (pc' := 20) (e := s + (rI p 72 k.toInt.toNat)) (st' := []) rfl rfl rfl ?_
      intro z1 hz1
      have ez1 := i_add hz1 (show s.toInt = s.toInt from rfl) (show (rI p 72 k.toInt.toNat).toInt = (rI p 72 k.toInt.toNat).toInt from rfl)
      refine hp_s (pc' := 21) (ls' := [(1, .int z1), (2, .int k), (0, .ref 66)]) (st' := []) rfl rfl rfl ?_
      refine hp_inc (L := fun z => [(2, .int z), (1, .int z1), (0, .ref 66)]) (pc' := 24) rfl rfl rfl (fun _ => rfl) rfl ?_
      intro z2 hz2
      have ez2 := i_add hz2 (show k.toInt = k.toInt from rfl) (show (Int32.ofInt 1).toInt = 1 from by decide)
      refine hp_go (pc' := 4) rfl rfl rfl ?_
      refine ih _ _ (by omega) (by omega) ?_
      rw [show z2.toInt.toNat = k.toInt.toNat + 1 by omega]
      show z1 = hSum _ _ + _
      rw [hz1, hs]
theorem s_allErrands {ro : List (List Int32)} {n d : Nat} {p : xH} {Q : Option Value → xH → Prop}  (pre0 : 0 ≤ (rI p 66 6).toInt) (pre1 : (rI p 66 6).toInt ≤ 7) (k0 : Q (some (.int (hSum (fun j => rI p 72 j) (rI p 66 6).toInt.toNat))) p) : hP ro n d (12, 3, 1, 1, k251) 0 (lv_args 0 [.ref 66]) [] p Q := by
  refine hp_id (ls := [(0, .ref 66)]) ?_
  refine hp_s (pc' := 1) (st' := [.int 0]) rfl rfl rfl ?_
  refine hp_s (pc' := 2) (ls' := [(1, .int 0), (0, .ref 66)]) (st' := []) rfl rfl rfl ?_
  refine hp_s (pc' := 3) (st' := [.int 0]) rfl rfl rfl ?_
  refine hp_s (pc' := 4) (ls' := [(2, .int 0), (1, .int 0), (0, .ref 66)]) (st' := []) rfl rfl rfl ?_
  exact lp_251 (by omega) (by omega) k0 n 0 0 (by decide) (by have h00 : (0 : Int32).toInt = 0 := (by decide); omega) rfl
theorem lp_12 {ro : List (List Int32)} {d : Nat} {Q : Option Value → xH → Prop} {x : Int32} {p : xH} (x0 : 0 ≤ x.toInt) (x7 : x.toInt < 7) (g0 : 0 ≤ (rI p 17 x.toInt.toNat).toInt) (g1 : (rI p 17 x.toInt.toNat).toInt ≤ 7) (K : Q (some (.int (hSum (fun j => rI p 19 ((4 * x.toInt).toNat + j)) (rI p 17 x.toInt.toNat).toInt.toNat))) p) : ∀ (n : Nat) (k : Int32) (s : Int32), (0 ≤ k.toInt) → (k.toInt ≤ (rI p 17 x.toInt.toNat).toInt) → (s = hSum (fun j => rI p 19 ((4 * x.toInt).toNat + j)) k.toInt.toNat) → hP ro n d (1, 4, 1, 1, k12) 4 [(3, .int k), (2, .int s), (0, .ref 13), (1, .int x)] [] p Q := by
  intro n
  induction n with
  | zero => intros; exact hp_0
  | succ n ih =>
    intro k s h1 h2 hs
    refine hp_s1 (pc' := 5) (st' := [.int k]) rfl rfl rfl ?_
    refine hp_s (pc' := 6) (st' := [.ref 13, .int k]) rfl rfl rfl ?_
    refine hp_getr (k := 4) (w := .ref 17) (pc' := 9) rfl rfl rfl rfl rfl ?_
    refine hp_s (pc' := 10) (st' := [.int x, .ref 17, .int k]) rfl rfl rfl ?_
    refine hp_ld (t := 100) (v := (rI p 17 x.toInt.toNat)) rfl (.inl rfl) rfl rfl rfl ?_
    intro (g1a : 0 ≤ x.toInt) (g1b : x.toInt < 7)
    refine hp_ic (pc' := 14) (t := 33) (a := k.toInt) (b := (rI p 17 x.toInt.toNat).toInt) rfl rfl rfl rfl rfl (fun (h1 : (rI p 17 x.toInt.toNat).toInt ≤ k.toInt) => ?_) (fun (h2 : ¬ ((rI p 17 x.toInt.toNat).toInt ≤ k.toInt)) => ?_)
    ·
      refine hp_s (pc' := 34) (st' := [.int s]) rfl rfl rfl ?_
      refine hp_ri rfl rfl ?_
      rw [hs, show k.toInt.toNat = (rI p 17 x.toInt.toNat).toInt.toNat by omega]; exact K
    ·
      refine hp_s (pc' := 15) (st' := [.int s]) rfl rfl rfl ?_
      refine hp_s (pc' := 16) (st' := [.ref 13, .int s]) rfl rfl rfl ?_
      refine hp_getr (k := 6) (w := .ref 19) (pc' := 19) rfl rfl rfl rfl rfl ?_
      refine hp_s (pc' := 20) (st' := [.int x, .ref 19, .int s]) rfl rfl rfl ?_
      refine hp_s (pc' := 21) (st' := [.int 4, .int x, .ref 19, .int s]) rfl rfl rfl ?_
      refine hp_z (pc' := 22) (e := x * 4) (st' := [.ref 19, .int s]) rfl rfl rfl ?_
      intro z1 hz1
      have ez1 := i_mul hz1 (show x.toInt = x.toInt from rfl) (show (4 : Int32).toInt = 4 from by decide)
      refine hp_s (pc' := 23) (st' := [.int k, .int z1, .ref 19, .int s]) rfl rfl rfl ?_
      refine hp_z (pc' := 24) (e := z1 + k) (st' := [.ref 19, .int s]) rfl rfl rfl ?_
      intro z2 hz2
      have ez2 := i_add hz2 (show z1.toInt = z1.toInt from rfl) (show k.toInt = k.toInt from rfl)
      refine hp_ld (t := 100) (v := (rI p 19 z2.toInt.toNat)) rfl (.inl rfl) rfl rfl rfl ?_
      intro (g2a : 0 ≤ z2.toInt) (g2b : z2.toInt < 28)
      refine hp_z (pc' := 26) (e := s + (rI p 19 z2.toInt.toNat)) (st' := []) rfl rfl rfl ?_
      intro z3 hz3
      have ez3 := i_add hz3 (show s.toInt = s.toInt from rfl) (show (rI p 19 z2.toInt.toNat).toInt = (rI p 19 z2.toInt.toNat).toInt from rfl)
      refine hp_s (pc' := 27) (ls' := [(2, .int z3), (3, .int k), (0, .ref 13), (1, .int x)]) (st' := []) rfl rfl rfl ?_
      refine hp_inc (L := fun z => [(3, .int z), (2, .int z3), (0, .ref 13), (1, .int x)]) (pc' := 30) rfl rfl rfl (fun _ => rfl) rfl ?_
      intro z4 hz4
      have ez4 := i_add hz4 (show k.toInt = k.toInt from rfl) (show (Int32.ofInt 1).toInt = 1 from by decide)
      refine hp_go (pc' := 4) rfl rfl rfl ?_
      refine ih _ _ (by omega) (by omega) ?_
      rw [show z4.toInt.toNat = k.toInt.toNat + 1 by omega]
      show z3 = hSum _ _ + _
      rw [hz3, hs]
      congr 2; omega
theorem s_minutesOf {ro : List (List Int32)} {n d : Nat} {p : xH} {Q : Option Value → xH → Prop} {x : Int32} {xi : Int} (hx : x.toInt = xi) (pre0 : 0 ≤ xi) (pre1 : xi < 7) (pre2 : 0 ≤ (rI p 17 xi.toNat).toInt) (pre3 : (rI p 17 xi.toNat).toInt ≤ 7) (k0 : Q (some (.int (hSum (fun j => rI p 19 ((4 * xi).toNat + j)) (rI p 17 xi.toNat).toInt.toNat))) p) : hP ro n d (1, 4, 1, 1, k12) 0 (lv_args 0 [.ref 13, .int x]) [] p Q := by
  subst hx
  refine hp_id (ls := [(0, .ref 13), (1, .int x)]) ?_
  refine hp_s (pc' := 1) (st' := [.int 0]) rfl rfl rfl ?_
  refine hp_s (pc' := 2) (ls' := [(2, .int 0), (0, .ref 13), (1, .int x)]) (st' := []) rfl rfl rfl ?_
  refine hp_s (pc' := 3) (st' := [.int 0]) rfl rfl rfl ?_
  refine hp_s (pc' := 4) (ls' := [(3, .int 0), (2, .int 0), (0, .ref 13), (1, .int x)]) (st' := []) rfl rfl rfl ?_
  exact lp_12 (x := x) (by omega) (by omega) (by omega) (by omega) k0 n 0 0 (by decide) (by have h00 : (0 : Int32).toInt = 0 := (by decide); omega) rfl
theorem lp_193 {ro : List (List Int32)} {d : Nat} {Q : Option Value → xH → Prop} {x : Int32} {p : xH} (x0 : 0 ≤ x.toInt) (x7 : x.toInt < 7) (g0 : 0 ≤ (rI p 72 x.toInt.toNat).toInt) (g1 : (rI p 72 x.toInt.toNat).toInt ≤ 7) (K : Q (some (.int (hSum (fun j => rI p 74 ((4 * x.toInt).toNat + j)) (rI p 72 x.toInt.toNat).toInt.toNat))) p) : ∀ (n : Nat) (k : Int32) (s : Int32), (0 ≤ k.toInt) → (k.toInt ≤ (rI p 72 x.toInt.toNat).toInt) → (s = hSum (fun j => rI p 74 ((4 * x.toInt).toNat + j)) k.toInt.toNat) → hP ro n d (12, 4, 1, 1, k193) 4 [(3, .int k), (2, .int s), (0, .ref 66), (1, .int x)] [] p Q := by
  intro n
  induction n with
  | zero => intros; exact hp_0
  | succ n ih =>
    intro k s h1 h2 hs
    refine hp_s1 (pc' := 5) (st' := [.int k]) rfl rfl rfl ?_
    refine hp_s (pc' := 6) (st' := [.ref 66, .int k]) rfl rfl rfl ?_
    refine hp_getr (k := 8) (w := .ref 72) (pc' := 9) rfl rfl rfl rfl rfl ?_
    refine hp_s (pc' := 10) (st' := [.int x, .ref 72, .int k]) rfl rfl rfl ?_
    refine hp_ld (t := 100) (v := (rI p 72 x.toInt.toNat)) rfl (.inl rfl) rfl rfl rfl ?_
    intro (g1a : 0 ≤ x.toInt) (g1b : x.toInt < 7)
    refine hp_ic (pc' := 14) (t := 33) (a := k.toInt) (b := (rI p 72 x.toInt.toNat).toInt) rfl rfl rfl rfl rfl (fun (h1 : (rI p 72 x.toInt.toNat).toInt ≤ k.toInt) => ?_) (fun (h2 : ¬ ((rI p 72 x.toInt.toNat).toInt ≤ k.toInt)) => ?_)
    ·
      refine hp_s (pc' := 34) (st' := [.int s]) rfl rfl rfl ?_
      refine hp_ri rfl rfl ?_
      rw [hs, show k.toInt.toNat = (rI p 72 x.toInt.toNat).toInt.toNat by omega]; exact K
    ·
      refine hp_s (pc' := 15) (st' := [.int s]) rfl rfl rfl ?_
      refine hp_s (pc' := 16) (st' := [.ref 66, .int s]) rfl rfl rfl ?_
      refine hp_getr (k := 10) (w := .ref 74) (pc' := 19) rfl rfl rfl rfl rfl ?_
      refine hp_s (pc' := 20) (st' := [.int 4, .ref 74, .int s]) rfl rfl rfl ?_
      refine hp_s (pc' := 21) (st' := [.int x, .int 4, .ref 74, .int s]) rfl rfl rfl ?_
      refine hp_z (pc' := 22) (e := 4 * x) (st' := [.ref 74, .int s]) rfl rfl rfl ?_
      intro z1 hz1
      have ez1 := i_mul hz1 (show (4 : Int32).toInt = 4 from by decide) (show x.toInt = x.toInt from rfl)
      refine hp_s (pc' := 23) (st' := [.int k, .int z1, .ref 74, .int s]) rfl rfl rfl ?_
      refine hp_z (pc' := 24) (e := z1 + k) (st' := [.ref 74, .int s]) rfl rfl rfl ?_
      intro z2 hz2
      have ez2 := i_add hz2 (show z1.toInt = z1.toInt from rfl) (show k.toInt = k.toInt from rfl)
      refine hp_ld (t := 100) (v := (rI p 74 z2.toInt.toNat)) rfl (.inl rfl) rfl rfl rfl ?_
      intro (g2a : 0 ≤ z2.toInt) (g2b : z2.toInt < 28)
      refine hp_z (pc' := 26) (e := s + (rI p 74 z2.toInt.toNat)) (st' := []) rfl rfl rfl ?_
      intro z3 hz3
      have ez3 := i_add hz3 (show s.toInt = s.toInt from rfl) (show (rI p 74 z2.toInt.toNat).toInt = (rI p 74 z2.toInt.toNat).toInt from rfl)
      refine hp_s (pc' := 27) (ls' := [(2, .int z3), (3, .int k), (0, .ref 66), (1, .int x)]) (st' := []) rfl rfl rfl ?_
      refine hp_inc (L := fun z => [(3, .int z), (2, .int z3), (0, .ref 66), (1, .int x)]) (pc' := 30) rfl rfl rfl (fun _ => rfl) rfl ?_
      intro z4 hz4
      have ez4 := i_add hz4 (show k.toInt = k.toInt from rfl) (show (Int32.ofInt 1).toInt = 1 from by decide)
      refine hp_go (pc' := 4) rfl rfl rfl ?_
      refine ih _ _ (by omega) (by omega) ?_
      rw [show z4.toInt.toNat = k.toInt.toNat + 1 by omega]
      show z3 = hSum _ _ + _
      rw [hz3, hs]
      congr 2; omega
theorem s_minutesOfM {ro : List (List Int32)} {n d : Nat} {p : xH} {Q : Option Value → xH → Prop} {x : Int32} {xi : Int} (hx : x.toInt = xi) (pre0 : 0 ≤ xi) (pre1 : xi < 7) (pre2 : 0 ≤ (rI p 72 xi.toNat).toInt) (pre3 : (rI p 72 xi.toNat).toInt ≤ 7) (k0 : Q (some (.int (hSum (fun j => rI p 74 ((4 * xi).toNat + j)) (rI p 72 xi.toNat).toInt.toNat))) p) : hP ro n d (12, 4, 1, 1, k193) 0 (lv_args 0 [.ref 66, .int x]) [] p Q := by
  subst hx
  refine hp_id (ls := [(0, .ref 66), (1, .int x)]) ?_
  refine hp_s (pc' := 1) (st' := [.int 0]) rfl rfl rfl ?_
  refine hp_s (pc' := 2) (ls' := [(2, .int 0), (0, .ref 66), (1, .int x)]) (st' := []) rfl rfl rfl ?_
  refine hp_s (pc' := 3) (st' := [.int 0]) rfl rfl rfl ?_
  refine hp_s (pc' := 4) (ls' := [(3, .int 0), (2, .int 0), (0, .ref 66), (1, .int x)]) (st' := []) rfl rfl rfl ?_
  exact lp_193 (x := x) (by omega) (by omega) (by omega) (by omega) k0 n 0 0 (by decide) (by have h00 : (0 : Int32).toInt = 0 := (by decide); omega) rfl
theorem X_count {ro : List (List Int32)} {n d : Nat} {p : xH} {Q : Option Value → xH → Prop} {x : Int32} {xi : Int} (hx : x.toInt = xi) (pre0 : 0 ≤ (rI p 13 7).toInt) (pre1 : (rI p 13 7).toInt ≤ 7) (k0 : (xi = 0) → Q (some (.int (rI p 13 7))) p) (k1 : (xi = 1) → Q (some (.int (hSum (fun j => rI p 17 j) (rI p 13 7).toInt.toNat))) p) (k2 : (xi = 2) → Q (some (.int (rI p 1 5))) p) (k3 : (xi = 3) → Q (some (.int (rI p 25 2))) p) (k4 : (xi = 4) → Q (some (.int (rI p 52 5))) p) (k5 : (xi = 5) → Q (some (.int (rI p 57 1))) p) (k6 : (xi = 6) → Q (some (.int (rI p 57 3))) p) (k7 : (xi < 0 ∨ 6 < xi) → Q (some (.int (-1))) p) : hP ro n d (11, 2, 1, 1, k171) 0 (lv_args 0 [.ref 0, .int x]) [] p Q := by
  subst hx
  refine hp_id (ls := [(0, .ref 0), (1, .int x)]) ?_
  refine hp_s (pc' := 1) (st' := [.int x]) rfl rfl rfl ?_
  by_cases h1 : x.toInt = 0
  ·
    refine hp_sw (v := 0) (t := 44) rfl rfl (h1) rfl ?_
    refine hp_s (pc' := 45) (st' := [.ref 0]) rfl rfl rfl ?_
    refine hp_getr (k := 4) (w := .ref 13) (pc' := 48) rfl rfl rfl rfl rfl ?_
    refine hp_get (k := 7) (pc' := 51) (v := (rI p 13 7)) rfl rfl rfl rfl rfl rfl ?_
    refine hp_ri rfl rfl ?_
    first | (exact k0 (by first | assumption | omega)) | (exact k1 (by first | assumption | omega)) | (exact k2 (by first | assumption | omega)) | (exact k3 (by first | assumption | omega)) | (exact k4 (by first | assumption | omega)) | (exact k5 (by first | assumption | omega)) | (exact k6 (by first | assumption | omega)) | (exact k7 (by first | assumption | omega)) | (exfalso; omega)
  by_cases h2 : x.toInt = 1
  ·
    refine hp_sw (v := 1) (t := 52) rfl rfl (h2) rfl ?_
    refine hp_s (pc' := 53) (st' := [.ref 0]) rfl rfl rfl ?_
    refine hp_getr (k := 4) (w := .ref 13) (pc' := 56) rfl rfl rfl rfl rfl ?_
    refine hp_cv (r := 13) (o := 1) (kd := 1) (as := []) (rest := []) (pc' := 59) rfl rfl rfl rfl rfl rfl rfl rfl rfl (fun d1 => ?_)
    refine s_errandsOfAll (by first | assumption | omega) (by first | assumption | omega) ?_
    refine hp_id (st := [.int (((hSum (fun j => rI p 17 j) (rI p 13 7).toInt.toNat)))]) ?_
    refine hp_ri rfl rfl ?_
    first | (exact k0 (by first | assumption | omega)) | (exact k1 (by first | assumption | omega)) | (exact k2 (by first | assumption | omega)) | (exact k3 (by first | assumption | omega)) | (exact k4 (by first | assumption | omega)) | (exact k5 (by first | assumption | omega)) | (exact k6 (by first | assumption | omega)) | (exact k7 (by first | assumption | omega)) | (exfalso; omega)
  by_cases h3 : x.toInt = 2
  ·
    refine hp_sw (v := 2) (t := 60) rfl rfl (h3) rfl ?_
    refine hp_s (pc' := 61) (st' := [.ref 0]) rfl rfl rfl ?_
    refine hp_getr (k := 0) (w := .ref 1) (pc' := 64) rfl rfl rfl rfl rfl ?_
    refine hp_get (k := 5) (pc' := 67) (v := (rI p 1 5)) rfl rfl rfl rfl rfl rfl ?_
    refine hp_ri rfl rfl ?_
    first | (exact k0 (by first | assumption | omega)) | (exact k1 (by first | assumption | omega)) | (exact k2 (by first | assumption | omega)) | (exact k3 (by first | assumption | omega)) | (exact k4 (by first | assumption | omega)) | (exact k5 (by first | assumption | omega)) | (exact k6 (by first | assumption | omega)) | (exact k7 (by first | assumption | omega)) | (exfalso; omega)
  by_cases h4 : x.toInt = 3
  ·
    refine hp_sw (v := 3) (t := 68) rfl rfl (h4) rfl ?_
    refine hp_s (pc' := 69) (st' := [.ref 0]) rfl rfl rfl ?_
    refine hp_getr (k := 6) (w := .ref 25) (pc' := 72) rfl rfl rfl rfl rfl ?_
    refine hp_get (k := 2) (pc' := 75) (v := (rI p 25 2)) rfl rfl rfl rfl rfl rfl ?_
    refine hp_ri rfl rfl ?_
    first | (exact k0 (by first | assumption | omega)) | (exact k1 (by first | assumption | omega)) | (exact k2 (by first | assumption | omega)) | (exact k3 (by first | assumption | omega)) | (exact k4 (by first | assumption | omega)) | (exact k5 (by first | assumption | omega)) | (exact k6 (by first | assumption | omega)) | (exact k7 (by first | assumption | omega)) | (exfalso; omega)
  by_cases h5 : x.toInt = 4
  ·
    refine hp_sw (v := 4) (t := 76) rfl rfl (h5) rfl ?_
    refine hp_s (pc' := 77) (st' := [.ref 0]) rfl rfl rfl ?_
    refine hp_getr (k := 11) (w := .ref 52) (pc' := 80) rfl rfl rfl rfl rfl ?_
    refine hp_get (k := 5) (pc' := 83) (v := (rI p 52 5)) rfl rfl rfl rfl rfl rfl ?_
    refine hp_ri rfl rfl ?_
    first | (exact k0 (by first | assumption | omega)) | (exact k1 (by first | assumption | omega)) | (exact k2 (by first | assumption | omega)) | (exact k3 (by first | assumption | omega)) | (exact k4 (by first | assumption | omega)) | (exact k5 (by first | assumption | omega)) | (exact k6 (by first | assumption | omega)) | (exact k7 (by first | assumption | omega)) | (exfalso; omega)
  by_cases h6 : x.toInt = 5
  ·
    refine hp_sw (v := 5) (t := 84) rfl rfl (h6) rfl ?_
    refine hp_s (pc' := 85) (st' := [.ref 0]) rfl rfl rfl ?_
    refine hp_getr (k := 12) (w := .ref 57) (pc' := 88) rfl rfl rfl rfl rfl ?_
    refine hp_get (k := 1) (pc' := 91) (v := (rI p 57 1)) rfl rfl rfl rfl rfl rfl ?_
    refine hp_ri rfl rfl ?_
    first | (exact k0 (by first | assumption | omega)) | (exact k1 (by first | assumption | omega)) | (exact k2 (by first | assumption | omega)) | (exact k3 (by first | assumption | omega)) | (exact k4 (by first | assumption | omega)) | (exact k5 (by first | assumption | omega)) | (exact k6 (by first | assumption | omega)) | (exact k7 (by first | assumption | omega)) | (exfalso; omega)
  by_cases h7 : x.toInt = 6
  ·
    refine hp_sw (v := 6) (t := 92) rfl rfl (h7) rfl ?_
    refine hp_s (pc' := 93) (st' := [.ref 0]) rfl rfl rfl ?_
    refine hp_getr (k := 12) (w := .ref 57) (pc' := 96) rfl rfl rfl rfl rfl ?_
    refine hp_get (k := 3) (pc' := 99) (v := (rI p 57 3)) rfl rfl rfl rfl rfl rfl ?_
    refine hp_ri rfl rfl ?_
    first | (exact k0 (by first | assumption | omega)) | (exact k1 (by first | assumption | omega)) | (exact k2 (by first | assumption | omega)) | (exact k3 (by first | assumption | omega)) | (exact k4 (by first | assumption | omega)) | (exact k5 (by first | assumption | omega)) | (exact k6 (by first | assumption | omega)) | (exact k7 (by first | assumption | omega)) | (exfalso; omega)
  refine hp_td (t := 100) rfl rfl (by omega) ?_
  refine hp_s (pc' := 101) (st' := [.int (-1)]) rfl rfl rfl ?_
  refine hp_ri rfl rfl ?_
  first | (exact k0 (by first | assumption | omega)) | (exact k1 (by first | assumption | omega)) | (exact k2 (by first | assumption | omega)) | (exact k3 (by first | assumption | omega)) | (exact k4 (by first | assumption | omega)) | (exact k5 (by first | assumption | omega)) | (exact k6 (by first | assumption | omega)) | (exact k7 (by first | assumption | omega)) | (exfalso; omega)
theorem M_count {ro : List (List Int32)} {n d : Nat} {p : xH} {Q : Option Value → xH → Prop} {x : Int32} {xi : Int} (hx : x.toInt = xi) (pre0 : 0 ≤ (rI p 66 6).toInt) (pre1 : (rI p 66 6).toInt ≤ 7) (k0 : (xi = 0) → Q (some (.int (rI p 66 6))) p) (k1 : (xi = 1) → Q (some (.int (hSum (fun j => rI p 72 j) (rI p 66 6).toInt.toNat))) p) (k2 : (xi = 2) → Q (some (.int (rI p 66 34))) p) (k3 : (xi = 3) → Q (some (.int (rI p 66 12))) p) (k4 : (xi = 4) → Q (some (.int (rI p 66 5))) p) (k5 : (xi = 5) → Q (some (.int (rI p 66 44))) p) (k6 : (xi = 6) → Q (some (.int (rI p 66 47))) p) (k7 : (xi < 0 ∨ 6 < xi) → Q (some (.int (-1))) p) : hP ro n d (12, 2, 1, 1, k272) 0 (lv_args 0 [.ref 66, .int x]) [] p Q := by
  subst hx
  refine hp_id (ls := [(0, .ref 66), (1, .int x)]) ?_
  refine hp_s (pc' := 1) (st' := [.int x]) rfl rfl rfl ?_
  by_cases h1 : x.toInt = 0
  ·
    refine hp_sw (v := 0) (t := 44) rfl rfl (h1) rfl ?_
    refine hp_s (pc' := 45) (st' := [.ref 66]) rfl rfl rfl ?_
    refine hp_get (k := 6) (pc' := 48) (v := (rI p 66 6)) rfl rfl rfl rfl rfl rfl ?_
    refine hp_ri rfl rfl ?_
    first | (exact k0 (by first | assumption | omega)) | (exact k1 (by first | assumption | omega)) | (exact k2 (by first | assumption | omega)) | (exact k3 (by first | assumption | omega)) | (exact k4 (by first | assumption | omega)) | (exact k5 (by first | assumption | omega)) | (exact k6 (by first | assumption | omega)) | (exact k7 (by first | assumption | omega)) | (exfalso; omega)
  by_cases h2 : x.toInt = 1
  ·
    refine hp_sw (v := 1) (t := 49) rfl rfl (h2) rfl ?_
    refine hp_s (pc' := 50) (st' := [.ref 66]) rfl rfl rfl ?_
    refine hp_cv (r := 66) (o := 12) (kd := 1) (as := []) (rest := []) (pc' := 53) rfl rfl rfl rfl rfl rfl rfl rfl rfl (fun d1 => ?_)
    refine s_allErrands (by first | assumption | omega) (by first | assumption | omega) ?_
    refine hp_id (st := [.int (((hSum (fun j => rI p 72 j) (rI p 66 6).toInt.toNat)))]) ?_
    refine hp_ri rfl rfl ?_
    first | (exact k0 (by first | assumption | omega)) | (exact k1 (by first | assumption | omega)) | (exact k2 (by first | assumption | omega)) | (exact k3 (by first | assumption | omega)) | (exact k4 (by first | assumption | omega)) | (exact k5 (by first | assumption | omega)) | (exact k6 (by first | assumption | omega)) | (exact k7 (by first | assumption | omega)) | (exfalso; omega)
  by_cases h3 : x.toInt = 2
  ·
    refine hp_sw (v := 2) (t := 54) rfl rfl (h3) rfl ?_
    refine hp_s (pc' := 55) (st' := [.ref 66]) rfl rfl rfl ?_
    refine hp_get (k := 34) (pc' := 58) (v := (rI p 66 34)) rfl rfl rfl rfl rfl rfl ?_
    refine hp_ri rfl rfl ?_
    first | (exact k0 (by first | assumption | omega)) | (exact k1 (by first | assumption | omega)) | (exact k2 (by first | assumption | omega)) | (exact k3 (by first | assumption | omega)) | (exact k4 (by first | assumption | omega)) | (exact k5 (by first | assumption | omega)) | (exact k6 (by first | assumption | omega)) | (exact k7 (by first | assumption | omega)) | (exfalso; omega)
  by_cases h4 : x.toInt = 3
  ·
    refine hp_sw (v := 3) (t := 59) rfl rfl (h4) rfl ?_
    refine hp_s (pc' := 60) (st' := [.ref 66]) rfl rfl rfl ?_
    refine hp_get (k := 12) (pc' := 63) (v := (rI p 66 12)) rfl rfl rfl rfl rfl rfl ?_
    refine hp_ri rfl rfl ?_
    first | (exact k0 (by first | assumption | omega)) | (exact k1 (by first | assumption | omega)) | (exact k2 (by first | assumption | omega)) | (exact k3 (by first | assumption | omega)) | (exact k4 (by first | assumption | omega)) | (exact k5 (by first | assumption | omega)) | (exact k6 (by first | assumption | omega)) | (exact k7 (by first | assumption | omega)) | (exfalso; omega)
  by_cases h5 : x.toInt = 4
  ·
    refine hp_sw (v := 4) (t := 64) rfl rfl (h5) rfl ?_
    refine hp_s (pc' := 65) (st' := [.ref 66]) rfl rfl rfl ?_
    refine hp_get (k := 5) (pc' := 68) (v := (rI p 66 5)) rfl rfl rfl rfl rfl rfl ?_
    refine hp_ri rfl rfl ?_
    first | (exact k0 (by first | assumption | omega)) | (exact k1 (by first | assumption | omega)) | (exact k2 (by first | assumption | omega)) | (exact k3 (by first | assumption | omega)) | (exact k4 (by first | assumption | omega)) | (exact k5 (by first | assumption | omega)) | (exact k6 (by first | assumption | omega)) | (exact k7 (by first | assumption | omega)) | (exfalso; omega)
  by_cases h6 : x.toInt = 5
  ·
    refine hp_sw (v := 5) (t := 69) rfl rfl (h6) rfl ?_
    refine hp_s (pc' := 70) (st' := [.ref 66]) rfl rfl rfl ?_
    refine hp_get (k := 44) (pc' := 73) (v := (rI p 66 44)) rfl rfl rfl rfl rfl rfl ?_
    refine hp_ri rfl rfl ?_
    first | (exact k0 (by first | assumption | omega)) | (exact k1 (by first | assumption | omega)) | (exact k2 (by first | assumption | omega)) | (exact k3 (by first | assumption | omega)) | (exact k4 (by first | assumption | omega)) | (exact k5 (by first | assumption | omega)) | (exact k6 (by first | assumption | omega)) | (exact k7 (by first | assumption | omega)) | (exfalso; omega)
  by_cases h7 : x.toInt = 6
  ·
    refine hp_sw (v := 6) (t := 74) rfl rfl (h7) rfl ?_
    refine hp_s (pc' := 75) (st' := [.ref 66]) rfl rfl rfl ?_
    refine hp_get (k := 47) (pc' := 78) (v := (rI p 66 47)) rfl rfl rfl rfl rfl rfl ?_
    refine hp_ri rfl rfl ?_
    first | (exact k0 (by first | assumption | omega)) | (exact k1 (by first | assumption | omega)) | (exact k2 (by first | assumption | omega)) | (exact k3 (by first | assumption | omega)) | (exact k4 (by first | assumption | omega)) | (exact k5 (by first | assumption | omega)) | (exact k6 (by first | assumption | omega)) | (exact k7 (by first | assumption | omega)) | (exfalso; omega)
  refine hp_td (t := 79) rfl rfl (by omega) ?_
  refine hp_s (pc' := 80) (st' := [.int (-1)]) rfl rfl rfl ?_
  refine hp_ri rfl rfl ?_
  first | (exact k0 (by first | assumption | omega)) | (exact k1 (by first | assumption | omega)) | (exact k2 (by first | assumption | omega)) | (exact k3 (by first | assumption | omega)) | (exact k4 (by first | assumption | omega)) | (exact k5 (by first | assumption | omega)) | (exact k6 (by first | assumption | omega)) | (exact k7 (by first | assumption | omega)) | (exfalso; omega)
