/-! contracts of methods, walked -/
/-- what the names stand for -/
def nm6 (d a b h m e : Int32) (k : Int) : Int32 := if k.toNat = 0 then d else if k.toNat = 1 then a else if k.toNat = 2 then b else if k.toNat = 3 then h else if k.toNat = 4 then m else if k.toNat = 5 then e else 0
def mnI (x y : Int32) : Int32 := if y < x then y else x
def mxI (x y : Int32) : Int32 := if x < y then y else x
abbrev nmL (d x y h m e : Int32) : Int → Int32 := nm6 d (mnI x y) (mxI x y) h m e
/-- are two alike, by a law (or none) -/
def lAl (lo : Option (List yN)) (d x y h m e : Int32) : Prop := match lo with
  | none => d.toInt ≤ e.toInt
  | some ls => ∃ u, lW (nmL d x y h m e) ls u ∧ u ≠ 0
/-- the law as the one holds it, as the other -/
def lXo (p : xH) (lo : Option (List yN)) : Prop := match lo with
  | none => (rI p 20 2).toInt = 0
  | some ls => 1 ≤ (ltc 0 ls).length ∧ (ltc 0 ls).length ≤ 128 ∧ (rI p 20 2).toInt = ((ltc 0 ls).length : Int) ∧ hCd p 21 0 (ltc 0 ls) ∧ ∀ x ∈ ls, lKl x
def lMo (p : xH) (lo : Option (List yN)) : Prop := match lo with
  | none => (rI p 66 14).toInt = -1
  | some ls => 0 ≤ (rI p 66 14).toInt ∧ (rI p 66 14).toInt ≤ 120 ∧ yT (gM p 0 (rI p 66 14).toInt) 0 [] (some ls, (rI p 66 14).toInt.toNat)
theorem i_ofz : (0 : Int32).toInt.toNat = 0 := by decide
theorem i_of1 : (1 : Int32).toInt.toNat = 1 := by decide
theorem i_of2 : (2 : Int32).toInt.toNat = 2 := by decide
theorem i_of3 : (3 : Int32).toInt.toNat = 3 := by decide
theorem i_of4 : (4 : Int32).toInt.toNat = 4 := by decide
theorem i_of5 : (5 : Int32).toInt.toNat = 5 := by decide
/-- a row of six that is filled -/
theorem row6 {r : Nat} {p p1 p2 p3 p4 p5 p6 : xH} {d a b h m e : Int32} (hL6 : hL r = 6) (hT6 : ∀ k, k < 6 → hT r k = some 0) (hr : ∃ g, jgc jGG r = some g ∧ hgl g = 6) (hw : hW p)
    (e1 : p1 = wV p r (0 : Int32).toInt.toNat (.int d)) (e2 : p2 = wV p1 r (1 : Int32).toInt.toNat (.int a)) (e3 : p3 = wV p2 r (2 : Int32).toInt.toNat (.int b)) (e4 : p4 = wV p3 r (3 : Int32).toInt.toNat (.int h)) (e5 : p5 = wV p4 r (4 : Int32).toInt.toNat (.int m)) (e6 : p6 = wV p5 r (5 : Int32).toInt.toNat (.int e)) : hW p6 ∧ ∀ k, rI p6 r k = nm6 d a b h m e (k : Int) := by
  rw [i_ofz] at e1
  rw [i_of1] at e2
  rw [i_of2] at e3
  rw [i_of3] at e4
  rw [i_of4] at e5
  rw [i_of5] at e6
  have w1 : hW p1 := by rw [e1]; exact hW_wV hw (hT6 0 (by decide))
  have w2 : hW p2 := by rw [e2]; exact hW_wV w1 (hT6 1 (by decide))
  have w3 : hW p3 := by rw [e3]; exact hW_wV w2 (hT6 2 (by decide))
  have w4 : hW p4 := by rw [e4]; exact hW_wV w3 (hT6 3 (by decide))
  have w5 : hW p5 := by rw [e5]; exact hW_wV w4 (hT6 4 (by decide))
  have w6 : hW p6 := by rw [e6]; exact hW_wV w5 (hT6 5 (by decide))
  refine ⟨w6, fun k => ?_⟩
  unfold nm6
  rw [Int.toNat_natCast]
  by_cases hk : k < 6
  · rw [e6, rI_w w5 (by rw [hL6]; decide), e5, rI_w w4 (by rw [hL6]; decide), e4, rI_w w3 (by rw [hL6]; decide), e3, rI_w w2 (by rw [hL6]; decide), e2, rI_w w1 (by rw [hL6]; decide), e1, rI_w hw (by rw [hL6]; decide)]
    rcases (show k = 0 ∨ k = 1 ∨ k = 2 ∨ k = 3 ∨ k = 4 ∨ k = 5 from by omega) with rfl | rfl | rfl | rfl | rfl | rfl <;> rfl
  · obtain ⟨g, g1, g2⟩ := hr
    rw [if_neg (by omega), if_neg (by omega), if_neg (by omega), if_neg (by omega), if_neg (by omega), if_neg (by omega)]
    unfold rI
    rw [rV_out w6 g1 (by omega)]
abbrev T_h : List (Nat × Nat) := [(20, 4), (23, 9999), (24, 9999)]
theorem lp_43e {ro : List (List Int32)} {d : Nat} {Q : Option Value → xH → Prop} {p : xH} {stp pc di x y h m e sg : Int32} (hE : (rI p 20 2).toInt ≤ pc.toInt) (K : Q (some (.int 0)) p) : ∀ (n : Nat), hP ro n d (3, 10, 1, 2, k43) 92 [(8, .int stp), (7, .int pc), (9, .int sg), (6, .int di), (0, .ref 20), (1, .int x), (2, .int y), (3, .int h), (4, .int m), (5, .int e)] [] p Q := by
  intro n
  refine hp_s (pc' := 94) (st' := [.int stp]) rfl rfl rfl ?_
  refine hp_s (pc' := 97) (st' := [.int 128, .int stp]) rfl rfl rfl ?_
  refine hp_ic (pc' := 100) (t := 186) (a := stp.toInt) (b := 128) rfl rfl rfl rfl (by decide) (fun (h1 : 128 ≤ stp.toInt) => ?_) (fun (h2 : ¬ (128 ≤ stp.toInt)) => ?_)
  ·
    refine hp_s (pc' := 187) (st' := [.int 0]) rfl rfl rfl ?_
    refine hp_rb rfl rfl (fun _ => ?_)
    exact K
  ·
    refine hp_s (pc' := 102) (st' := [.int pc]) rfl rfl rfl ?_
    refine hp_s (pc' := 103) (st' := [.ref 20, .int pc]) rfl rfl rfl ?_
    refine hp_get (k := 2) (pc' := 106) (v := (rI p 20 2)) rfl rfl rfl rfl rfl rfl ?_
    refine hp_ic (pc' := 109) (t := 186) (a := pc.toInt) (b := (rI p 20 2).toInt) rfl rfl rfl rfl rfl (fun (h3 : (rI p 20 2).toInt ≤ pc.toInt) => ?_) (fun (h4 : ¬ ((rI p 20 2).toInt ≤ pc.toInt)) => ?_)
    ·
      refine hp_s (pc' := 187) (st' := [.int 0]) rfl rfl rfl ?_
      refine hp_rb rfl rfl (fun _ => ?_)
      exact K
    ·
      exfalso; omega
theorem s_holds {ro : List (List Int32)} {n d : Nat} {p : xH} {Q : Option Value → xH → Prop} (lo : Option (List yN)) {x : Int32} {xi : Int} {y : Int32} {yi : Int} {h : Int32} {hi : Int} {m : Int32} {mi : Int} {e : Int32} {ei : Int} (hx : x.toInt = xi) (hy : y.toInt = yi) (hh : h.toInt = hi) (hm : m.toInt = mi) (he : e.toInt = ei) (pre0 : lXo p lo) (k0 : ∀ p2 : xH, (hNt T_h p p2) → (lAl lo (bcn (x ^^^ y)) x y h m e) → Q (some (.int (1))) p2) (k1 : ∀ p2 : xH, (hNt T_h p p2) → (¬ lAl lo (bcn (x ^^^ y)) x y h m e) → Q (some (.int (0))) p2) : hP ro n d (3, 10, 1, 2, k43) 0 (lv_args 0 [.ref 20, .int x, .int y, .int h, .int m, .int e]) [] p Q := by
  subst hx
  subst hy
  subst hh
  subst hm
  subst he
  refine hp_id (ls := [(0, .ref 20), (1, .int x), (2, .int y), (3, .int h), (4, .int m), (5, .int e)]) ?_
  refine hp_s (pc' := 1) (st' := [.int x]) rfl rfl rfl ?_
  refine hp_s (pc' := 2) (st' := [.int y, .int x]) rfl rfl rfl ?_
  refine hp_z (pc' := 3) (e := x ^^^ y) (st' := []) rfl rfl rfl ?_
  intro z1 hz1
  refine hp_cs (kd := 0) (as := [.int z1]) (rest := []) (pc' := 6) rfl rfl rfl rfl rfl rfl rfl (fun d1 => ?_)
  refine s_bitCount (xi := z1.toInt) rfl ?_
  intro y1 h1
  have hy1 : y1 = bcn (x ^^^ y) := by rw [h1, hz1]
  refine hp_id (st := [.int y1]) ?_
  refine hp_s (pc' := 8) (ls' := [(6, .int y1), (0, .ref 20), (1, .int x), (2, .int y), (3, .int h), (4, .int m), (5, .int e)]) (st' := []) rfl rfl rfl ?_
  refine hp_s (pc' := 9) (st' := [.ref 20]) rfl rfl rfl ?_
  refine hp_get (k := 2) (pc' := 12) (v := (rI p 20 2)) rfl rfl rfl rfl rfl rfl ?_
  refine hp_if (pc' := 15) (t := 28) (a := (rI p 20 2).toInt) rfl rfl rfl rfl (fun (h2 : (rI p 20 2).toInt ≠ 0) => ?_) (fun (h3 : ¬ ((rI p 20 2).toInt ≠ 0)) => ?_)
  ·
    refine hp_s (pc' := 29) (st' := [.ref 20]) rfl rfl rfl ?_
    refine hp_getr (k := 5) (w := .ref 24) (pc' := 32) rfl rfl rfl rfl rfl ?_
    refine hp_s (pc' := 33) (st' := [.int 0, .ref 24]) rfl rfl rfl ?_
    refine hp_s (pc' := 35) (st' := [.int y1, .int 0, .ref 24]) rfl rfl rfl ?_
    refine hp_st (t := 100) rfl (.inl rfl) rfl rfl ?_
    intro p1 wp1 (p1a : 0 ≤ (0 : Int32).toInt) (p1b : (0 : Int32).toInt < 6) ep1
    refine hp_s (pc' := 37) (st' := [.ref 20]) rfl rfl rfl ?_
    refine hp_getr (k := 5) (w := .ref 24) (pc' := 40) rfl rfl rfl rfl rfl ?_
    refine hp_s (pc' := 41) (st' := [.int 1, .ref 24]) rfl rfl rfl ?_
    refine hp_s (pc' := 42) (st' := [.int x, .int 1, .ref 24]) rfl rfl rfl ?_
    refine hp_s (pc' := 43) (st' := [.int y, .int x, .int 1, .ref 24]) rfl rfl rfl ?_
    refine hp_mm (pc' := 46) (e := (if y < x then y else x)) rfl rfl rfl ?_
    intro z2 hz2
    refine hp_st (t := 100) rfl (.inl rfl) rfl rfl ?_
    intro p2 wp2 (p2a : 0 ≤ (1 : Int32).toInt) (p2b : (1 : Int32).toInt < 6) ep2
    refine hp_s (pc' := 48) (st' := [.ref 20]) rfl rfl rfl ?_
    refine hp_getr (k := 5) (w := .ref 24) (pc' := 51) rfl rfl rfl rfl rfl ?_
    refine hp_s (pc' := 52) (st' := [.int 2, .ref 24]) rfl rfl rfl ?_
    refine hp_s (pc' := 53) (st' := [.int x, .int 2, .ref 24]) rfl rfl rfl ?_
    refine hp_s (pc' := 54) (st' := [.int y, .int x, .int 2, .ref 24]) rfl rfl rfl ?_
    refine hp_mm (pc' := 57) (e := (if x < y then y else x)) rfl rfl rfl ?_
    intro z3 hz3
    refine hp_st (t := 100) rfl (.inl rfl) rfl rfl ?_
    intro p3 wp3 (p3a : 0 ≤ (2 : Int32).toInt) (p3b : (2 : Int32).toInt < 6) ep3
    refine hp_s (pc' := 59) (st' := [.ref 20]) rfl rfl rfl ?_
    refine hp_getr (k := 5) (w := .ref 24) (pc' := 62) rfl rfl rfl rfl rfl ?_
    refine hp_s (pc' := 63) (st' := [.int 3, .ref 24]) rfl rfl rfl ?_
    refine hp_s (pc' := 64) (st' := [.int h, .int 3, .ref 24]) rfl rfl rfl ?_
    refine hp_st (t := 100) rfl (.inl rfl) rfl rfl ?_
    intro p4 wp4 (p4a : 0 ≤ (3 : Int32).toInt) (p4b : (3 : Int32).toInt < 6) ep4
    refine hp_s (pc' := 66) (st' := [.ref 20]) rfl rfl rfl ?_
    refine hp_getr (k := 5) (w := .ref 24) (pc' := 69) rfl rfl rfl rfl rfl ?_
    refine hp_s (pc' := 70) (st' := [.int 4, .ref 24]) rfl rfl rfl ?_
    refine hp_s (pc' := 72) (st' := [.int m, .int 4, .ref 24]) rfl rfl rfl ?_
    refine hp_st (t := 100) rfl (.inl rfl) rfl rfl ?_
    intro p5 wp5 (p5a : 0 ≤ (4 : Int32).toInt) (p5b : (4 : Int32).toInt < 6) ep5
    refine hp_s (pc' := 74) (st' := [.ref 20]) rfl rfl rfl ?_
    refine hp_getr (k := 5) (w := .ref 24) (pc' := 77) rfl rfl rfl rfl rfl ?_
    refine hp_s (pc' := 78) (st' := [.int 5, .ref 24]) rfl rfl rfl ?_
    refine hp_s (pc' := 80) (st' := [.int e, .int 5, .ref 24]) rfl rfl rfl ?_
    refine hp_st (t := 100) rfl (.inl rfl) rfl rfl ?_
    intro p6 wp6 (p6a : 0 ≤ (5 : Int32).toInt) (p6b : (5 : Int32).toInt < 6) ep6
    refine hp_s (pc' := 82) (st' := [.ref 20]) rfl rfl rfl ?_
    refine hp_s (pc' := 83) (st' := [.int 0, .ref 20]) rfl rfl rfl ?_
    refine hp_put (k := 4) (pc' := 86) rfl rfl rfl rfl rfl ?_
    intro p7 wp7 ep7
    refine hp_s (pc' := 87) (st' := [.int 0]) rfl rfl rfl ?_
    refine hp_s (pc' := 89) (ls' := [(7, .int 0), (6, .int y1), (0, .ref 20), (1, .int x), (2, .int y), (3, .int h), (4, .int m), (5, .int e)]) (st' := []) rfl rfl rfl ?_
    refine hp_s (pc' := 90) (st' := [.int 0]) rfl rfl rfl ?_
    refine hp_s (pc' := 92) (ls' := [(8, .int 0), (7, .int 0), (6, .int y1), (0, .ref 20), (1, .int x), (2, .int y), (3, .int h), (4, .int m), (5, .int e)]) (st' := []) rfl rfl rfl ?_
    cases lo with
    | none => exfalso; have q : (rI p 20 2).toInt = 0 := pre0; omega
    | some lz =>
      obtain ⟨a1, a2, a3, a4, a5⟩ := pre0
      obtain ⟨w6, r6⟩ := row6 (r := 24) rfl (fun k hk => (show ∀ k, k < 6 → hT 24 k = some 0 from by decide +kernel) k hk) ⟨_, rfl, rfl⟩ wp1 ep1 ep2 ep3 ep4 ep5 ep6
      have hn : hNt T_h p p7 := (by rw [ep7]; exact (hNt.w (by rw [ep6]; exact (hNt.w (by rw [ep5]; exact (hNt.w (by rw [ep4]; exact (hNt.w (by rw [ep3]; exact (hNt.w (by rw [ep2]; exact (hNt.w (by rw [ep1]; exact (hNt.w (hNt.refl _ _) rfl)) rfl)) rfl)) rfl)) rfl)) rfl)) rfl))
      have hnm : nX p7 = nmL y1 x y h m e := by
        funext k
        show rI p7 24 k.toNat = _
        rw [ep7, rI_o (by decide), r6, hz2, hz3]
        unfold nmL nm6 mnI mxI
        rw [Int.toNat_natCast]
      have e20 : (rI p7 20 2).toInt = ((ltc 0 lz).length : Int) := by rw [hn.int (r := 20) (k := 2) rfl]; exact a3
      have hc : hCd p7 21 0 (ltc 0 lz) := hCd_same a4 (fun j _ _ => ⟨hn _ _ rfl, hn _ _ rfl⟩)
      have hS : HS p7 p7 [] := ⟨hNt.refl _ _, by rw [ep7, rI_eq wp7 (by decide)]; decide, fun j u hu => by cases hu⟩
      have one : ∀ u, lW (nX p7) lz u → (u ≠ 0 ↔ lAl (some lz) y1 x y h m e) := fun u hu => by
        rw [hnm] at hu
        exact ⟨fun g => ⟨u, hu, g⟩, fun ⟨u2, g1, g2⟩ => by rw [lW_one hu g1]; exact g2⟩
      rw [hy1] at one
      refine tx_43 (o := none) (p0 := p7) (di := y1) (x := x) (y := y) (h := h) (m := m) (e := e) (by omega) lz _ 0 0 n a5 (by rw [i_ofz]; exact hc) (by decide) (by decide) (by rw [i_ofz, e20]; exact Int.zero_add _) hS (by intro q; rw [q] at a1; exact absurd a1 (by decide)) (fun u p2 j1 j2 => ?_) (fun n2 o2 s2 c2 p2 j0 j1 j2 => ?_)
      · by_cases hu : u = 0
        · rw [if_pos hu]; exact k1 p2 (hNt.trans hn (j1.up (by decide))) (fun g => absurd hu ((one u j2).mpr g))
        · rw [if_neg hu]; exact k0 p2 (hNt.trans hn (j1.up (by decide))) ((one u j2).mp hu)
      · have hE : (rI p2 20 2).toInt ≤ c2.toInt := by rw [j1.int (r := 20) (k := 2) rfl]; omega
        have hq := k1 p2 (hNt.trans hn (j1.up (by decide))) (fun g => absurd rfl ((one 0 j2).mpr g))
        cases o2 with
        | none => exact hp_ls rfl rfl ⟨rfl, rfl, rfl, rfl, rfl, rfl, rfl, rfl, rfl, trivial⟩ (lp_43e (sg := 0) hE hq n2)
        | some sg => exact lp_43e hE hq n2
  ·
    refine hp_s (pc' := 17) (st' := [.int y1]) rfl rfl rfl ?_
    refine hp_s (pc' := 19) (st' := [.int e, .int y1]) rfl rfl rfl ?_
    refine hp_ic (pc' := 22) (t := 26) (a := y1.toInt) (b := e.toInt) rfl rfl rfl rfl rfl (fun (h4 : e.toInt < y1.toInt) => ?_) (fun (h5 : ¬ (e.toInt < y1.toInt)) => ?_)
    ·
      refine hp_s (pc' := 27) (st' := [.int 0]) rfl rfl rfl ?_
      refine hp_rb rfl rfl (fun _ => ?_)
      cases lo with
      | some lz => exfalso; obtain ⟨a1, a2, a3, a4, a5⟩ := pre0; omega
      | none => exact k1 _ (hNt.refl _ _) (by show ¬ ((bcn (x ^^^ y)).toInt ≤ e.toInt); rw [← hz1, ← h1]; omega)
    ·
      refine hp_s (pc' := 23) (st' := [.int 1]) rfl rfl rfl ?_
      refine hp_go (pc' := 27) rfl rfl rfl ?_
      refine hp_rb rfl rfl (fun _ => ?_)
      cases lo with
      | some lz => exfalso; obtain ⟨a1, a2, a3, a4, a5⟩ := pre0; omega
      | none => exact k0 _ (hNt.refl _ _) (by show ((bcn (x ^^^ y)).toInt ≤ e.toInt); rw [← hz1, ← h1]; omega)
abbrev T_aa : List (Nat × Nat) := [(66, 15), (66, 16), (66, 17), (66, 18), (66, 19), (77, 9999)]
theorem mn_1 {x y : Int32} (h : x.toInt < y.toInt) : mnI x y = x ∧ mxI x y = y := by
  unfold mnI mxI
  rw [if_neg (fun g => by have := Int32.lt_iff_toInt_lt.mp g; omega), if_pos (Int32.lt_iff_toInt_lt.mpr h)]
  exact ⟨rfl, rfl⟩
theorem mn_2 {x y : Int32} (h : ¬ x.toInt < y.toInt) : mnI x y = y ∧ mxI x y = x := by
  unfold mnI mxI
  by_cases g : y.toInt < x.toInt
  · rw [if_pos (Int32.lt_iff_toInt_lt.mpr g), if_neg (fun g2 => by have := Int32.lt_iff_toInt_lt.mp g2; omega)]
    exact ⟨rfl, rfl⟩
  · have e : x = y := Int32.toInt_inj.mp (by omega)
    subst e
    exact ⟨ite_self _, ite_self _⟩
theorem lAl_M {p p6 p7 : xH} {lz : List yN} {z d x y h m e : Int32} (hn : nM p6 = nmL d x y h m e) (hg : gM p6 0 (rI p6 66 14).toInt = gM p 0 (rI p 66 14).toInt) (h14 : (rI p6 66 14).toInt = (rI p 66 14).toInt) (hlo : lMo p (some lz)) (hw : WO p6 p7 0 (rI p6 66 14).toInt z) : z ≠ 0 ↔ lAl (some lz) d x y h m e := by
  obtain ⟨a1, a2, a3⟩ := hlo
  obtain ⟨h1, h2⟩ := hw
  rw [hg, h14, hn] at h2
  rcases h2 with ⟨ac, b1, b2, b3⟩ | ⟨r, b, b1, b2, b3⟩
  · have q := yT_det a3 b1
    have q1 : some lz = some ac := congrArg Prod.fst q
    cases q1
    exact ⟨fun g => ⟨z, b3, g⟩, fun ⟨u, g1, g2⟩ => by rw [lW_one b3 g1]; exact g2⟩
  · exfalso
    have q := yT_det a3 b1
    have q1 : some lz = r := congrArg Prod.fst q
    have q2 : (rI p 66 14).toInt.toNat = b := congrArg Prod.snd q
    rcases b2 with b2 | b2
    · rw [b2] at q1; cases q1
    · omega
theorem gM_nt {p p2 : xH} {n : Int} (h : hNt [(77, 9999)] p p2) : gM p2 0 n = gM p 0 n := by
  funext j
  unfold gM
  rw [h.int (r := 76) rfl, h.int (r := 75) rfl]
theorem s_areAlike {ro : List (List Int32)} {n d : Nat} {p : xH} {Q : Option Value → xH → Prop} (lo : Option (List yN)) {x : Int32} {xi : Int} {y : Int32} {yi : Int} {h : Int32} {hi : Int} {m : Int32} {mi : Int} (hx : x.toInt = xi) (hy : y.toInt = yi) (hh : h.toInt = hi) (hm : m.toInt = mi) (pre0 : lMo p lo) (pre1 : 0 ≤ xi) (pre2 : xi < 64) (pre3 : 0 ≤ yi) (pre4 : yi < 64) (k0 : ∀ p2 : xH, (hNt T_aa p p2) → (lAl lo (bcn (x ^^^ y)) x y h m (rI p 67 21)) → Q (some (.int (1))) p2) (k1 : ∀ p2 : xH, (hNt T_aa p p2) → (¬ lAl lo (bcn (x ^^^ y)) x y h m (rI p 67 21)) → Q (some (.int (0))) p2) : hP ro n d (12, 6, 1, 2, k209) 0 (lv_args 0 [.ref 66, .int x, .int y, .int h, .int m]) [] p Q := by
  subst hx
  subst hy
  subst hh
  subst hm
  refine hp_id (ls := [(0, .ref 66), (1, .int x), (2, .int y), (3, .int h), (4, .int m)]) ?_
  have hxb := xor_b pre1 pre2 pre3 pre4
  have h14 : -1 ≤ (rI p 66 14).toInt ∧ (rI p 66 14).toInt ≤ 120 := by cases lo with | none => have q : (rI p 66 14).toInt = -1 := pre0; omega | some lz => obtain ⟨a1, a2, a3⟩ := pre0; omega
  refine hp_s (pc' := 1) (st' := [.int x]) rfl rfl rfl ?_
  refine hp_s (pc' := 2) (st' := [.int y, .int x]) rfl rfl rfl ?_
  refine hp_z (pc' := 3) (e := x ^^^ y) (st' := []) rfl rfl rfl ?_
  intro z1 hz1
  rw [← hz1] at hxb
  refine hp_cs (kd := 0) (as := [.int z1]) (rest := []) (pc' := 6) rfl rfl rfl rfl rfl rfl rfl (fun d1 => ?_)
  refine s_bitsOf (xi := z1.toInt) rfl (by first | assumption | omega) (by first | assumption | omega) ?_
  intro y1 h1
  have hy1 : y1 = bcn (x ^^^ y) := by rw [h1, hz1]
  refine hp_id (st := [.int y1]) ?_
  refine hp_s (pc' := 8) (ls' := [(5, .int y1), (0, .ref 66), (1, .int x), (2, .int y), (3, .int h), (4, .int m)]) (st' := []) rfl rfl rfl ?_
  refine hp_s (pc' := 9) (st' := [.ref 66]) rfl rfl rfl ?_
  refine hp_get (k := 14) (pc' := 12) (v := (rI p 66 14)) rfl rfl rfl rfl rfl rfl ?_
  refine hp_if (pc' := 15) (t := 33) (a := (rI p 66 14).toInt) rfl rfl rfl rfl (fun (h2 : 0 ≤ (rI p 66 14).toInt) => ?_) (fun (h3 : ¬ (0 ≤ (rI p 66 14).toInt)) => ?_)
  ·
    refine hp_s (pc' := 34) (st' := [.ref 66]) rfl rfl rfl ?_
    refine hp_getr (k := 20) (w := .ref 77) (pc' := 37) rfl rfl rfl rfl rfl ?_
    refine hp_s (pc' := 38) (st' := [.int 0, .ref 77]) rfl rfl rfl ?_
    refine hp_s (pc' := 40) (st' := [.int y1, .int 0, .ref 77]) rfl rfl rfl ?_
    refine hp_st (t := 100) rfl (.inl rfl) rfl rfl ?_
    intro p1 wp1 (p1a : 0 ≤ (0 : Int32).toInt) (p1b : (0 : Int32).toInt < 6) ep1
    refine hp_s (pc' := 42) (st' := [.ref 66]) rfl rfl rfl ?_
    refine hp_getr (k := 20) (w := .ref 77) (pc' := 45) rfl rfl rfl rfl rfl ?_
    refine hp_s (pc' := 46) (st' := [.int 1, .ref 77]) rfl rfl rfl ?_
    refine hp_s (pc' := 47) (st' := [.int x, .int 1, .ref 77]) rfl rfl rfl ?_
    refine hp_s (pc' := 48) (st' := [.int y, .int x, .int 1, .ref 77]) rfl rfl rfl ?_
    refine hp_ic (pc' := 51) (t := 55) (a := x.toInt) (b := y.toInt) rfl rfl rfl rfl rfl (fun (h4 : y.toInt ≤ x.toInt) => ?_) (fun (h5 : ¬ (y.toInt ≤ x.toInt)) => ?_)
    ·
      refine hp_s (pc' := 56) (st' := [.int y, .int 1, .ref 77]) rfl rfl rfl ?_
      refine hp_st (t := 100) rfl (.inl rfl) rfl rfl ?_
      intro p2 wp2 (p2a : 0 ≤ (1 : Int32).toInt) (p2b : (1 : Int32).toInt < 6) ep2
      refine hp_s (pc' := 58) (st' := [.ref 66]) rfl rfl rfl ?_
      refine hp_getr (k := 20) (w := .ref 77) (pc' := 61) rfl rfl rfl rfl rfl ?_
      refine hp_s (pc' := 62) (st' := [.int 2, .ref 77]) rfl rfl rfl ?_
      refine hp_s (pc' := 63) (st' := [.int x, .int 2, .ref 77]) rfl rfl rfl ?_
      refine hp_s (pc' := 64) (st' := [.int y, .int x, .int 2, .ref 77]) rfl rfl rfl ?_
      refine hp_ic (pc' := 67) (t := 71) (a := x.toInt) (b := y.toInt) rfl rfl rfl rfl rfl (fun (h6 : y.toInt ≤ x.toInt) => ?_) (fun (h7 : ¬ (y.toInt ≤ x.toInt)) => ?_)
      ·
        refine hp_s (pc' := 72) (st' := [.int x, .int 2, .ref 77]) rfl rfl rfl ?_
        refine hp_st (t := 100) rfl (.inl rfl) rfl rfl ?_
        intro p3 wp3 (p3a : 0 ≤ (2 : Int32).toInt) (p3b : (2 : Int32).toInt < 6) ep3
        refine hp_s (pc' := 74) (st' := [.ref 66]) rfl rfl rfl ?_
        refine hp_getr (k := 20) (w := .ref 77) (pc' := 77) rfl rfl rfl rfl rfl ?_
        refine hp_s (pc' := 78) (st' := [.int 3, .ref 77]) rfl rfl rfl ?_
        refine hp_s (pc' := 79) (st' := [.int h, .int 3, .ref 77]) rfl rfl rfl ?_
        refine hp_st (t := 100) rfl (.inl rfl) rfl rfl ?_
        intro p4 wp4 (p4a : 0 ≤ (3 : Int32).toInt) (p4b : (3 : Int32).toInt < 6) ep4
        refine hp_s (pc' := 81) (st' := [.ref 66]) rfl rfl rfl ?_
        refine hp_getr (k := 20) (w := .ref 77) (pc' := 84) rfl rfl rfl rfl rfl ?_
        refine hp_s (pc' := 85) (st' := [.int 4, .ref 77]) rfl rfl rfl ?_
        refine hp_s (pc' := 87) (st' := [.int m, .int 4, .ref 77]) rfl rfl rfl ?_
        refine hp_st (t := 100) rfl (.inl rfl) rfl rfl ?_
        intro p5 wp5 (p5a : 0 ≤ (4 : Int32).toInt) (p5b : (4 : Int32).toInt < 6) ep5
        refine hp_s (pc' := 89) (st' := [.ref 66]) rfl rfl rfl ?_
        refine hp_getr (k := 20) (w := .ref 77) (pc' := 92) rfl rfl rfl rfl rfl ?_
        refine hp_s (pc' := 93) (st' := [.int 5, .ref 77]) rfl rfl rfl ?_
        refine hp_s (pc' := 94) (st' := [.ref 66, .int 5, .ref 77]) rfl rfl rfl ?_
        refine hp_getr (k := 0) (w := .ref 67) (pc' := 97) rfl rfl rfl rfl rfl ?_
        refine hp_s (pc' := 99) (st' := [.int 21, .ref 67, .int 5, .ref 77]) rfl rfl rfl ?_
        refine hp_ld (t := 100) (v := (rI p 67 21)) rfl (.inl rfl) rfl rfl (by rw [ep5, rI_o (by decide), ep4, rI_o (by decide), ep3, rI_o (by decide), ep2, rI_o (by decide), ep1, rI_o (by decide)]; try rfl) ?_
        intro (g1a : 0 ≤ (21 : Int32).toInt) (g1b : (21 : Int32).toInt < 23)
        refine hp_st (t := 100) rfl (.inl rfl) rfl rfl ?_
        intro p6 wp6 (p6a : 0 ≤ (5 : Int32).toInt) (p6b : (5 : Int32).toInt < 6) ep6
        refine hp_s (pc' := 102) (st' := [.ref 66]) rfl rfl rfl ?_
        refine hp_s (pc' := 103) (st' := [.int 0, .ref 66]) rfl rfl rfl ?_
        refine hp_s (pc' := 104) (st' := [.ref 66, .int 0, .ref 66]) rfl rfl rfl ?_
        refine hp_get (k := 14) (pc' := 107) (v := (rI p 66 14)) rfl rfl rfl rfl rfl (by rw [ep6, rI_o (by decide), ep5, rI_o (by decide), ep4, rI_o (by decide), ep3, rI_o (by decide), ep2, rI_o (by decide), ep1, rI_o (by decide)]) ?_
        refine hp_cv (r := 66) (o := 12) (kd := 1) (as := [.int 0, .int (rI p 66 14)]) (rest := []) (pc' := 110) rfl rfl rfl rfl rfl rfl rfl rfl rfl (fun d2 => ?_)
        refine s_workOut (fi := 0) (by decide) (ci := (rI p 66 14).toInt) rfl (by first | assumption | omega) (by first | assumption | omega) (by first | assumption | omega) (by first | assumption | omega) ?_
        intro y2 p7 h8 h9
        skip
        refine hp_id (st := [.int y2]) ?_
        refine hp_if (pc' := 113) (t := 117) (a := y2.toInt) rfl rfl rfl rfl (fun (h10 : y2.toInt = 0) => ?_) (fun (h11 : ¬ (y2.toInt = 0)) => ?_)
        ·
          refine hp_s (pc' := 118) (st' := [.int 0]) rfl rfl rfl ?_
          refine hp_rb rfl rfl (fun _ => ?_)
          cases lo with
          | none => exfalso; have q : (rI p 66 14).toInt = -1 := pre0; omega
          | some lz =>
            obtain ⟨w6, r6⟩ := row6 (r := 77) rfl (fun k hk => (show ∀ k, k < 6 → hT 77 k = some 0 from by decide +kernel) k hk) ⟨_, rfl, rfl⟩ wp1 ep1 ep2 ep3 ep4 ep5 ep6
            have hn7 : hNt [(77, 9999)] p p6 := (by rw [ep6]; exact (hNt.w (by rw [ep5]; exact (hNt.w (by rw [ep4]; exact (hNt.w (by rw [ep3]; exact (hNt.w (by rw [ep2]; exact (hNt.w (by rw [ep1]; exact (hNt.w (hNt.refl _ _) rfl)) rfl)) rfl)) rfl)) rfl)) rfl))
            have hnm : nM p6 = nmL y1 x y h m (rI p 67 21) := by
              funext k
              show rI p6 77 k.toNat = _
              rw [r6]
              unfold nmL
              rw [(mn_2 (x := x) (y := y) (by omega)).1, (mn_2 (x := x) (y := y) (by omega)).2]
              unfold nm6
              rw [Int.toNat_natCast]
            have hq := lAl_M hnm (by rw [gM_nt hn7, hn7.int (r := 66) (k := 14) rfl]) (by rw [hn7.int (r := 66) (k := 14) rfl]) pre0 (by rw [hn7.int (r := 66) (k := 14) rfl]; exact h9)
            rw [hy1] at hq
            exact k1 _ (hNt.trans (hn7.up (by decide)) (h8.up (by decide))) (fun g => absurd (i_z (by omega)) (hq.mpr g))
        ·
          refine hp_s (pc' := 114) (st' := [.int 1]) rfl rfl rfl ?_
          refine hp_go (pc' := 118) rfl rfl rfl ?_
          refine hp_rb rfl rfl (fun _ => ?_)
          cases lo with
          | none => exfalso; have q : (rI p 66 14).toInt = -1 := pre0; omega
          | some lz =>
            obtain ⟨w6, r6⟩ := row6 (r := 77) rfl (fun k hk => (show ∀ k, k < 6 → hT 77 k = some 0 from by decide +kernel) k hk) ⟨_, rfl, rfl⟩ wp1 ep1 ep2 ep3 ep4 ep5 ep6
            have hn7 : hNt [(77, 9999)] p p6 := (by rw [ep6]; exact (hNt.w (by rw [ep5]; exact (hNt.w (by rw [ep4]; exact (hNt.w (by rw [ep3]; exact (hNt.w (by rw [ep2]; exact (hNt.w (by rw [ep1]; exact (hNt.w (hNt.refl _ _) rfl)) rfl)) rfl)) rfl)) rfl)) rfl))
            have hnm : nM p6 = nmL y1 x y h m (rI p 67 21) := by
              funext k
              show rI p6 77 k.toNat = _
              rw [r6]
              unfold nmL
              rw [(mn_2 (x := x) (y := y) (by omega)).1, (mn_2 (x := x) (y := y) (by omega)).2]
              unfold nm6
              rw [Int.toNat_natCast]
            have hq := lAl_M hnm (by rw [gM_nt hn7, hn7.int (r := 66) (k := 14) rfl]) (by rw [hn7.int (r := 66) (k := 14) rfl]) pre0 (by rw [hn7.int (r := 66) (k := 14) rfl]; exact h9)
            rw [hy1] at hq
            exact k0 _ (hNt.trans (hn7.up (by decide)) (h8.up (by decide))) (hq.mp (i_nz (by omega)))
      ·
        refine hp_s (pc' := 68) (st' := [.int y, .int 2, .ref 77]) rfl rfl rfl ?_
        refine hp_go (pc' := 72) rfl rfl rfl ?_
        refine hp_st (t := 100) rfl (.inl rfl) rfl rfl ?_
        intro p8 wp8 (p8a : 0 ≤ (2 : Int32).toInt) (p8b : (2 : Int32).toInt < 6) ep8
        refine hp_s (pc' := 74) (st' := [.ref 66]) rfl rfl rfl ?_
        refine hp_getr (k := 20) (w := .ref 77) (pc' := 77) rfl rfl rfl rfl rfl ?_
        refine hp_s (pc' := 78) (st' := [.int 3, .ref 77]) rfl rfl rfl ?_
        refine hp_s (pc' := 79) (st' := [.int h, .int 3, .ref 77]) rfl rfl rfl ?_
        refine hp_st (t := 100) rfl (.inl rfl) rfl rfl ?_
        intro p9 wp9 (p9a : 0 ≤ (3 : Int32).toInt) (p9b : (3 : Int32).toInt < 6) ep9
        refine hp_s (pc' := 81) (st' := [.ref 66]) rfl rfl rfl ?_
        refine hp_getr (k := 20) (w := .ref 77) (pc' := 84) rfl rfl rfl rfl rfl ?_
        refine hp_s (pc' := 85) (st' := [.int 4, .ref 77]) rfl rfl rfl ?_
        refine hp_s (pc' := 87) (st' := [.int m, .int 4, .ref 77]) rfl rfl rfl ?_
        refine hp_st (t := 100) rfl (.inl rfl) rfl rfl ?_
        intro p10 wp10 (p10a : 0 ≤ (4 : Int32).toInt) (p10b : (4 : Int32).toInt < 6) ep10
        refine hp_s (pc' := 89) (st' := [.ref 66]) rfl rfl rfl ?_
        refine hp_getr (k := 20) (w := .ref 77) (pc' := 92) rfl rfl rfl rfl rfl ?_
        refine hp_s (pc' := 93) (st' := [.int 5, .ref 77]) rfl rfl rfl ?_
        refine hp_s (pc' := 94) (st' := [.ref 66, .int 5, .ref 77]) rfl rfl rfl ?_
        refine hp_getr (k := 0) (w := .ref 67) (pc' := 97) rfl rfl rfl rfl rfl ?_
        refine hp_s (pc' := 99) (st' := [.int 21, .ref 67, .int 5, .ref 77]) rfl rfl rfl ?_
        refine hp_ld (t := 100) (v := (rI p 67 21)) rfl (.inl rfl) rfl rfl (by rw [ep10, rI_o (by decide), ep9, rI_o (by decide), ep8, rI_o (by decide), ep2, rI_o (by decide), ep1, rI_o (by decide)]; try rfl) ?_
        intro (g2a : 0 ≤ (21 : Int32).toInt) (g2b : (21 : Int32).toInt < 23)
        refine hp_st (t := 100) rfl (.inl rfl) rfl rfl ?_
        intro p11 wp11 (p11a : 0 ≤ (5 : Int32).toInt) (p11b : (5 : Int32).toInt < 6) ep11
        refine hp_s (pc' := 102) (st' := [.ref 66]) rfl rfl rfl ?_
        refine hp_s (pc' := 103) (st' := [.int 0, .ref 66]) rfl rfl rfl ?_
        refine hp_s (pc' := 104) (st' := [.ref 66, .int 0, .ref 66]) rfl rfl rfl ?_
        refine hp_get (k := 14) (pc' := 107) (v := (rI p 66 14)) rfl rfl rfl rfl rfl (by rw [ep11, rI_o (by decide), ep10, rI_o (by decide), ep9, rI_o (by decide), ep8, rI_o (by decide), ep2, rI_o (by decide), ep1, rI_o (by decide)]) ?_
        refine hp_cv (r := 66) (o := 12) (kd := 1) (as := [.int 0, .int (rI p 66 14)]) (rest := []) (pc' := 110) rfl rfl rfl rfl rfl rfl rfl rfl rfl (fun d3 => ?_)
        refine s_workOut (fi := 0) (by decide) (ci := (rI p 66 14).toInt) rfl (by first | assumption | omega) (by first | assumption | omega) (by first | assumption | omega) (by first | assumption | omega) ?_
        intro y3 p12 h12 h13
        skip
        refine hp_id (st := [.int y3]) ?_
        refine hp_if (pc' := 113) (t := 117) (a := y3.toInt) rfl rfl rfl rfl (fun (h14 : y3.toInt = 0) => ?_) (fun (h15 : ¬ (y3.toInt = 0)) => ?_)
        ·
          refine hp_s (pc' := 118) (st' := [.int 0]) rfl rfl rfl ?_
          refine hp_rb rfl rfl (fun _ => ?_)
          exfalso; omega
        ·
          refine hp_s (pc' := 114) (st' := [.int 1]) rfl rfl rfl ?_
          refine hp_go (pc' := 118) rfl rfl rfl ?_
          refine hp_rb rfl rfl (fun _ => ?_)
          exfalso; omega
    ·
      refine hp_s (pc' := 52) (st' := [.int x, .int 1, .ref 77]) rfl rfl rfl ?_
      refine hp_go (pc' := 56) rfl rfl rfl ?_
      refine hp_st (t := 100) rfl (.inl rfl) rfl rfl ?_
      intro p13 wp13 (p13a : 0 ≤ (1 : Int32).toInt) (p13b : (1 : Int32).toInt < 6) ep13
      refine hp_s (pc' := 58) (st' := [.ref 66]) rfl rfl rfl ?_
      refine hp_getr (k := 20) (w := .ref 77) (pc' := 61) rfl rfl rfl rfl rfl ?_
      refine hp_s (pc' := 62) (st' := [.int 2, .ref 77]) rfl rfl rfl ?_
      refine hp_s (pc' := 63) (st' := [.int x, .int 2, .ref 77]) rfl rfl rfl ?_
      refine hp_s (pc' := 64) (st' := [.int y, .int x, .int 2, .ref 77]) rfl rfl rfl ?_
      refine hp_ic (pc' := 67) (t := 71) (a := x.toInt) (b := y.toInt) rfl rfl rfl rfl rfl (fun (h16 : y.toInt ≤ x.toInt) => ?_) (fun (h17 : ¬ (y.toInt ≤ x.toInt)) => ?_)
      ·
        refine hp_s (pc' := 72) (st' := [.int x, .int 2, .ref 77]) rfl rfl rfl ?_
        refine hp_st (t := 100) rfl (.inl rfl) rfl rfl ?_
        intro p14 wp14 (p14a : 0 ≤ (2 : Int32).toInt) (p14b : (2 : Int32).toInt < 6) ep14
        refine hp_s (pc' := 74) (st' := [.ref 66]) rfl rfl rfl ?_
        refine hp_getr (k := 20) (w := .ref 77) (pc' := 77) rfl rfl rfl rfl rfl ?_
        refine hp_s (pc' := 78) (st' := [.int 3, .ref 77]) rfl rfl rfl ?_
        refine hp_s (pc' := 79) (st' := [.int h, .int 3, .ref 77]) rfl rfl rfl ?_
        refine hp_st (t := 100) rfl (.inl rfl) rfl rfl ?_
        intro p15 wp15 (p15a : 0 ≤ (3 : Int32).toInt) (p15b : (3 : Int32).toInt < 6) ep15
        refine hp_s (pc' := 81) (st' := [.ref 66]) rfl rfl rfl ?_
        refine hp_getr (k := 20) (w := .ref 77) (pc' := 84) rfl rfl rfl rfl rfl ?_
        refine hp_s (pc' := 85) (st' := [.int 4, .ref 77]) rfl rfl rfl ?_
        refine hp_s (pc' := 87) (st' := [.int m, .int 4, .ref 77]) rfl rfl rfl ?_
        refine hp_st (t := 100) rfl (.inl rfl) rfl rfl ?_
        intro p16 wp16 (p16a : 0 ≤ (4 : Int32).toInt) (p16b : (4 : Int32).toInt < 6) ep16
        refine hp_s (pc' := 89) (st' := [.ref 66]) rfl rfl rfl ?_
        refine hp_getr (k := 20) (w := .ref 77) (pc' := 92) rfl rfl rfl rfl rfl ?_
        refine hp_s (pc' := 93) (st' := [.int 5, .ref 77]) rfl rfl rfl ?_
        refine hp_s (pc' := 94) (st' := [.ref 66, .int 5, .ref 77]) rfl rfl rfl ?_
        refine hp_getr (k := 0) (w := .ref 67) (pc' := 97) rfl rfl rfl rfl rfl ?_
        refine hp_s (pc' := 99) (st' := [.int 21, .ref 67, .int 5, .ref 77]) rfl rfl rfl ?_
        refine hp_ld (t := 100) (v := (rI p 67 21)) rfl (.inl rfl) rfl rfl (by rw [ep16, rI_o (by decide), ep15, rI_o (by decide), ep14, rI_o (by decide), ep13, rI_o (by decide), ep1, rI_o (by decide)]; try rfl) ?_
        intro (g3a : 0 ≤ (21 : Int32).toInt) (g3b : (21 : Int32).toInt < 23)
        refine hp_st (t := 100) rfl (.inl rfl) rfl rfl ?_
        intro p17 wp17 (p17a : 0 ≤ (5 : Int32).toInt) (p17b : (5 : Int32).toInt < 6) ep17
        refine hp_s (pc' := 102) (st' := [.ref 66]) rfl rfl rfl ?_
        refine hp_s (pc' := 103) (st' := [.int 0, .ref 66]) rfl rfl rfl ?_
        refine hp_s (pc' := 104) (st' := [.ref 66, .int 0, .ref 66]) rfl rfl rfl ?_
        refine hp_get (k := 14) (pc' := 107) (v := (rI p 66 14)) rfl rfl rfl rfl rfl (by rw [ep17, rI_o (by decide), ep16, rI_o (by decide), ep15, rI_o (by decide), ep14, rI_o (by decide), ep13, rI_o (by decide), ep1, rI_o (by decide)]) ?_
        refine hp_cv (r := 66) (o := 12) (kd := 1) (as := [.int 0, .int (rI p 66 14)]) (rest := []) (pc' := 110) rfl rfl rfl rfl rfl rfl rfl rfl rfl (fun d4 => ?_)
        refine s_workOut (fi := 0) (by decide) (ci := (rI p 66 14).toInt) rfl (by first | assumption | omega) (by first | assumption | omega) (by first | assumption | omega) (by first | assumption | omega) ?_
        intro y4 p18 h18 h19
        skip
        refine hp_id (st := [.int y4]) ?_
        refine hp_if (pc' := 113) (t := 117) (a := y4.toInt) rfl rfl rfl rfl (fun (h20 : y4.toInt = 0) => ?_) (fun (h21 : ¬ (y4.toInt = 0)) => ?_)
        ·
          refine hp_s (pc' := 118) (st' := [.int 0]) rfl rfl rfl ?_
          refine hp_rb rfl rfl (fun _ => ?_)
          exfalso; omega
        ·
          refine hp_s (pc' := 114) (st' := [.int 1]) rfl rfl rfl ?_
          refine hp_go (pc' := 118) rfl rfl rfl ?_
          refine hp_rb rfl rfl (fun _ => ?_)
          exfalso; omega
      ·
        refine hp_s (pc' := 68) (st' := [.int y, .int 2, .ref 77]) rfl rfl rfl ?_
        refine hp_go (pc' := 72) rfl rfl rfl ?_
        refine hp_st (t := 100) rfl (.inl rfl) rfl rfl ?_
        intro p19 wp19 (p19a : 0 ≤ (2 : Int32).toInt) (p19b : (2 : Int32).toInt < 6) ep19
        refine hp_s (pc' := 74) (st' := [.ref 66]) rfl rfl rfl ?_
        refine hp_getr (k := 20) (w := .ref 77) (pc' := 77) rfl rfl rfl rfl rfl ?_
        refine hp_s (pc' := 78) (st' := [.int 3, .ref 77]) rfl rfl rfl ?_
        refine hp_s (pc' := 79) (st' := [.int h, .int 3, .ref 77]) rfl rfl rfl ?_
        refine hp_st (t := 100) rfl (.inl rfl) rfl rfl ?_
        intro p20 wp20 (p20a : 0 ≤ (3 : Int32).toInt) (p20b : (3 : Int32).toInt < 6) ep20
        refine hp_s (pc' := 81) (st' := [.ref 66]) rfl rfl rfl ?_
        refine hp_getr (k := 20) (w := .ref 77) (pc' := 84) rfl rfl rfl rfl rfl ?_
        refine hp_s (pc' := 85) (st' := [.int 4, .ref 77]) rfl rfl rfl ?_
        refine hp_s (pc' := 87) (st' := [.int m, .int 4, .ref 77]) rfl rfl rfl ?_
        refine hp_st (t := 100) rfl (.inl rfl) rfl rfl ?_
        intro p21 wp21 (p21a : 0 ≤ (4 : Int32).toInt) (p21b : (4 : Int32).toInt < 6) ep21
        refine hp_s (pc' := 89) (st' := [.ref 66]) rfl rfl rfl ?_
        refine hp_getr (k := 20) (w := .ref 77) (pc' := 92) rfl rfl rfl rfl rfl ?_
        refine hp_s (pc' := 93) (st' := [.int 5, .ref 77]) rfl rfl rfl ?_
        refine hp_s (pc' := 94) (st' := [.ref 66, .int 5, .ref 77]) rfl rfl rfl ?_
        refine hp_getr (k := 0) (w := .ref 67) (pc' := 97) rfl rfl rfl rfl rfl ?_
        refine hp_s (pc' := 99) (st' := [.int 21, .ref 67, .int 5, .ref 77]) rfl rfl rfl ?_
        refine hp_ld (t := 100) (v := (rI p 67 21)) rfl (.inl rfl) rfl rfl (by rw [ep21, rI_o (by decide), ep20, rI_o (by decide), ep19, rI_o (by decide), ep13, rI_o (by decide), ep1, rI_o (by decide)]; try rfl) ?_
        intro (g4a : 0 ≤ (21 : Int32).toInt) (g4b : (21 : Int32).toInt < 23)
        refine hp_st (t := 100) rfl (.inl rfl) rfl rfl ?_
        intro p22 wp22 (p22a : 0 ≤ (5 : Int32).toInt) (p22b : (5 : Int32).toInt < 6) ep22
        refine hp_s (pc' := 102) (st' := [.ref 66]) rfl rfl rfl ?_
        refine hp_s (pc' := 103) (st' := [.int 0, .ref 66]) rfl rfl rfl ?_
        refine hp_s (pc' := 104) (st' := [.ref 66, .int 0, .ref 66]) rfl rfl rfl ?_
        refine hp_get (k := 14) (pc' := 107) (v := (rI p 66 14)) rfl rfl rfl rfl rfl (by rw [ep22, rI_o (by decide), ep21, rI_o (by decide), ep20, rI_o (by decide), ep19, rI_o (by decide), ep13, rI_o (by decide), ep1, rI_o (by decide)]) ?_
        refine hp_cv (r := 66) (o := 12) (kd := 1) (as := [.int 0, .int (rI p 66 14)]) (rest := []) (pc' := 110) rfl rfl rfl rfl rfl rfl rfl rfl rfl (fun d5 => ?_)
        refine s_workOut (fi := 0) (by decide) (ci := (rI p 66 14).toInt) rfl (by first | assumption | omega) (by first | assumption | omega) (by first | assumption | omega) (by first | assumption | omega) ?_
        intro y5 p23 h22 h23
        skip
        refine hp_id (st := [.int y5]) ?_
        refine hp_if (pc' := 113) (t := 117) (a := y5.toInt) rfl rfl rfl rfl (fun (h24 : y5.toInt = 0) => ?_) (fun (h25 : ¬ (y5.toInt = 0)) => ?_)
        ·
          refine hp_s (pc' := 118) (st' := [.int 0]) rfl rfl rfl ?_
          refine hp_rb rfl rfl (fun _ => ?_)
          cases lo with
          | none => exfalso; have q : (rI p 66 14).toInt = -1 := pre0; omega
          | some lz =>
            obtain ⟨w6, r6⟩ := row6 (r := 77) rfl (fun k hk => (show ∀ k, k < 6 → hT 77 k = some 0 from by decide +kernel) k hk) ⟨_, rfl, rfl⟩ wp1 ep1 ep13 ep19 ep20 ep21 ep22
            have hn7 : hNt [(77, 9999)] p p22 := (by rw [ep22]; exact (hNt.w (by rw [ep21]; exact (hNt.w (by rw [ep20]; exact (hNt.w (by rw [ep19]; exact (hNt.w (by rw [ep13]; exact (hNt.w (by rw [ep1]; exact (hNt.w (hNt.refl _ _) rfl)) rfl)) rfl)) rfl)) rfl)) rfl))
            have hnm : nM p22 = nmL y1 x y h m (rI p 67 21) := by
              funext k
              show rI p22 77 k.toNat = _
              rw [r6]
              unfold nmL
              rw [(mn_1 (x := x) (y := y) (by omega)).1, (mn_1 (x := x) (y := y) (by omega)).2]
              unfold nm6
              rw [Int.toNat_natCast]
            have hq := lAl_M hnm (by rw [gM_nt hn7, hn7.int (r := 66) (k := 14) rfl]) (by rw [hn7.int (r := 66) (k := 14) rfl]) pre0 (by rw [hn7.int (r := 66) (k := 14) rfl]; exact h23)
            rw [hy1] at hq
            exact k1 _ (hNt.trans (hn7.up (by decide)) (h22.up (by decide))) (fun g => absurd (i_z (by omega)) (hq.mpr g))
        ·
          refine hp_s (pc' := 114) (st' := [.int 1]) rfl rfl rfl ?_
          refine hp_go (pc' := 118) rfl rfl rfl ?_
          refine hp_rb rfl rfl (fun _ => ?_)
          cases lo with
          | none => exfalso; have q : (rI p 66 14).toInt = -1 := pre0; omega
          | some lz =>
            obtain ⟨w6, r6⟩ := row6 (r := 77) rfl (fun k hk => (show ∀ k, k < 6 → hT 77 k = some 0 from by decide +kernel) k hk) ⟨_, rfl, rfl⟩ wp1 ep1 ep13 ep19 ep20 ep21 ep22
            have hn7 : hNt [(77, 9999)] p p22 := (by rw [ep22]; exact (hNt.w (by rw [ep21]; exact (hNt.w (by rw [ep20]; exact (hNt.w (by rw [ep19]; exact (hNt.w (by rw [ep13]; exact (hNt.w (by rw [ep1]; exact (hNt.w (hNt.refl _ _) rfl)) rfl)) rfl)) rfl)) rfl)) rfl))
            have hnm : nM p22 = nmL y1 x y h m (rI p 67 21) := by
              funext k
              show rI p22 77 k.toNat = _
              rw [r6]
              unfold nmL
              rw [(mn_1 (x := x) (y := y) (by omega)).1, (mn_1 (x := x) (y := y) (by omega)).2]
              unfold nm6
              rw [Int.toNat_natCast]
            have hq := lAl_M hnm (by rw [gM_nt hn7, hn7.int (r := 66) (k := 14) rfl]) (by rw [hn7.int (r := 66) (k := 14) rfl]) pre0 (by rw [hn7.int (r := 66) (k := 14) rfl]; exact h23)
            rw [hy1] at hq
            exact k0 _ (hNt.trans (hn7.up (by decide)) (h22.up (by decide))) (hq.mp (i_nz (by omega)))
  ·
    refine hp_s (pc' := 17) (st' := [.int y1]) rfl rfl rfl ?_
    refine hp_s (pc' := 18) (st' := [.ref 66, .int y1]) rfl rfl rfl ?_
    refine hp_getr (k := 0) (w := .ref 67) (pc' := 21) rfl rfl rfl rfl rfl ?_
    refine hp_s (pc' := 23) (st' := [.int 21, .ref 67, .int y1]) rfl rfl rfl ?_
    refine hp_ld (t := 100) (v := (rI p 67 21)) rfl (.inl rfl) rfl rfl rfl ?_
    intro (g5a : 0 ≤ (21 : Int32).toInt) (g5b : (21 : Int32).toInt < 23)
    refine hp_ic (pc' := 27) (t := 31) (a := y1.toInt) (b := (rI p 67 21).toInt) rfl rfl rfl rfl rfl (fun (h26 : (rI p 67 21).toInt < y1.toInt) => ?_) (fun (h27 : ¬ ((rI p 67 21).toInt < y1.toInt)) => ?_)
    ·
      refine hp_s (pc' := 32) (st' := [.int 0]) rfl rfl rfl ?_
      refine hp_rb rfl rfl (fun _ => ?_)
      cases lo with
      | some lz => exfalso; obtain ⟨a1, a2, a3⟩ := pre0; omega
      | none => exact k1 _ (hNt.refl _ _) (by show ¬ ((bcn (x ^^^ y)).toInt ≤ (rI p 67 21).toInt); rw [← hy1]; omega)
    ·
      refine hp_s (pc' := 28) (st' := [.int 1]) rfl rfl rfl ?_
      refine hp_go (pc' := 32) rfl rfl rfl ?_
      refine hp_rb rfl rfl (fun _ => ?_)
      cases lo with
      | some lz => exfalso; obtain ⟨a1, a2, a3⟩ := pre0; omega
      | none => exact k0 _ (hNt.refl _ _) (by show ((bcn (x ^^^ y)).toInt ≤ (rI p 67 21).toInt); rw [← hy1]; omega)
