/-! contracts of methods, walked -/
abbrev T_ls : List (Nat × Nat) := [(90, 9999), (91, 9999)]
abbrev sBM (p : xH) (h : Int) : Nat → Nat → Prop := sBar (fun i => rI p 89 (3 * i)) (fun i => rI p 89 (3 * i + 1)) (fun i => rI p 89 (3 * i + 2)) h
theorem sBM_e {p p2 : xH} {h : Int} (e : ∀ j, rI p2 89 j = rI p 89 j) : sBM p2 h = sBM p h := by
  unfold sBM
  rw [show rI p2 89 = rI p 89 from funext e]
theorem s_doBar {ro : List (List Int32)} {n d : Nat} {p : xH} {Q : Option Value → xH → Prop} {x : Int32} {xi : Int} {y : Int32} {yi : Int} {h : Int32} {hi : Int} (hx : x.toInt = xi) (hy : y.toInt = yi) (hh : h.toInt = hi) (pre0 : ∀ j, 0 ≤ (rI p 89 j).toInt ∧ (rI p 89 j).toInt < 64) (pre1 : 0 ≤ xi) (pre2 : xi < 10) (pre3 : 0 ≤ yi) (pre4 : yi < 10) (k0 : (sBM p hi xi.toNat yi.toNat) → Q (some (.int (1))) p) (k1 : (¬ sBM p hi xi.toNat yi.toNat) → Q (some (.int (0))) p) : hP ro n d (12, 6, 1, 2, k240) 0 (lv_args 0 [.ref 66, .int x, .int y, .int h]) [] p Q := by
  subst hx
  subst hy
  subst hh
  refine hp_id (ls := [(0, .ref 66), (1, .int x), (2, .int y), (3, .int h)]) ?_
  refine hp_s (pc' := 1) (st' := [.ref 66]) rfl rfl rfl ?_
  refine hp_getr (k := 35) (w := .ref 89) (pc' := 4) rfl rfl rfl rfl rfl ?_
  refine hp_s (pc' := 5) (st' := [.int 3, .ref 89]) rfl rfl rfl ?_
  refine hp_s (pc' := 6) (st' := [.int x, .int 3, .ref 89]) rfl rfl rfl ?_
  refine hp_z (pc' := 7) (e := 3 * x) (st' := [.ref 89]) rfl rfl rfl ?_
  intro z1 hz1
  have ez1 := i_mul hz1 (show (3 : Int32).toInt = 3 from by decide) (show x.toInt = x.toInt from rfl)
  refine hp_ld (t := 100) (v := (rI p 89 z1.toInt.toNat)) rfl (.inl rfl) rfl rfl rfl ?_
  intro (g1a : 0 ≤ z1.toInt) (g1b : z1.toInt < 30)
  have qa : (rI p 89 z1.toInt.toNat) = rI p 89 (3 * x.toInt.toNat) := by congr 1; omega
  have ta : ((rI p 89 z1.toInt.toNat)).toInt = (rI p 89 (3 * x.toInt.toNat)).toInt := by rw [qa]
  refine hp_s (pc' := 9) (st' := [.ref 66, .int (rI p 89 z1.toInt.toNat)]) rfl rfl rfl ?_
  refine hp_getr (k := 35) (w := .ref 89) (pc' := 12) rfl rfl rfl rfl rfl ?_
  refine hp_s (pc' := 13) (st' := [.int 3, .ref 89, .int (rI p 89 z1.toInt.toNat)]) rfl rfl rfl ?_
  refine hp_s (pc' := 14) (st' := [.int y, .int 3, .ref 89, .int (rI p 89 z1.toInt.toNat)]) rfl rfl rfl ?_
  refine hp_z (pc' := 15) (e := 3 * y) (st' := [.ref 89, .int (rI p 89 z1.toInt.toNat)]) rfl rfl rfl ?_
  intro z2 hz2
  have ez2 := i_mul hz2 (show (3 : Int32).toInt = 3 from by decide) (show y.toInt = y.toInt from rfl)
  refine hp_ld (t := 100) (v := (rI p 89 z2.toInt.toNat)) rfl (.inl rfl) rfl rfl rfl ?_
  intro (g2a : 0 ≤ z2.toInt) (g2b : z2.toInt < 30)
  have qb : (rI p 89 z2.toInt.toNat) = rI p 89 (3 * y.toInt.toNat) := by congr 1; omega
  have tb : ((rI p 89 z2.toInt.toNat)).toInt = (rI p 89 (3 * y.toInt.toNat)).toInt := by rw [qb]
  refine hp_ic (pc' := 19) (t := 23) (a := (rI p 89 z1.toInt.toNat).toInt) (b := (rI p 89 z2.toInt.toNat).toInt) rfl rfl rfl rfl rfl (fun (h1 : (rI p 89 z1.toInt.toNat).toInt ≠ (rI p 89 z2.toInt.toNat).toInt) => ?_) (fun (h2 : ¬ ((rI p 89 z1.toInt.toNat).toInt ≠ (rI p 89 z2.toInt.toNat).toInt)) => ?_)
  ·
    refine hp_s (pc' := 24) (st' := [.int 0]) rfl rfl rfl ?_
    refine hp_s (pc' := 26) (ls' := [(4, .int 0), (0, .ref 66), (1, .int x), (2, .int y), (3, .int h)]) (st' := []) rfl rfl rfl ?_
    refine hp_s (pc' := 27) (st' := [.ref 66]) rfl rfl rfl ?_
    refine hp_getr (k := 35) (w := .ref 89) (pc' := 30) rfl rfl rfl rfl rfl ?_
    refine hp_s (pc' := 31) (st' := [.int 3, .ref 89]) rfl rfl rfl ?_
    refine hp_s (pc' := 32) (st' := [.int x, .int 3, .ref 89]) rfl rfl rfl ?_
    refine hp_z (pc' := 33) (e := 3 * x) (st' := [.ref 89]) rfl rfl rfl ?_
    intro z3 hz3
    have ez3 := i_mul hz3 (show (3 : Int32).toInt = 3 from by decide) (show x.toInt = x.toInt from rfl)
    refine hp_s (pc' := 34) (st' := [.int 1, .int z3, .ref 89]) rfl rfl rfl ?_
    refine hp_z (pc' := 35) (e := z3 + 1) (st' := [.ref 89]) rfl rfl rfl ?_
    intro z4 hz4
    have ez4 := i_add hz4 (show z3.toInt = z3.toInt from rfl) (show (1 : Int32).toInt = 1 from by decide)
    refine hp_ld (t := 100) (v := (rI p 89 z4.toInt.toNat)) rfl (.inl rfl) rfl rfl rfl ?_
    intro (g3a : 0 ≤ z4.toInt) (g3b : z4.toInt < 30)
    have qc : (rI p 89 z4.toInt.toNat) = rI p 89 (3 * x.toInt.toNat + 1) := by congr 1; omega
    have tc : ((rI p 89 z4.toInt.toNat)).toInt = (rI p 89 (3 * x.toInt.toNat + 1)).toInt := by rw [qc]
    refine hp_s (pc' := 37) (st' := [.ref 66, .int (rI p 89 z4.toInt.toNat)]) rfl rfl rfl ?_
    refine hp_getr (k := 35) (w := .ref 89) (pc' := 40) rfl rfl rfl rfl rfl ?_
    refine hp_s (pc' := 41) (st' := [.int 3, .ref 89, .int (rI p 89 z4.toInt.toNat)]) rfl rfl rfl ?_
    refine hp_s (pc' := 42) (st' := [.int y, .int 3, .ref 89, .int (rI p 89 z4.toInt.toNat)]) rfl rfl rfl ?_
    refine hp_z (pc' := 43) (e := 3 * y) (st' := [.ref 89, .int (rI p 89 z4.toInt.toNat)]) rfl rfl rfl ?_
    intro z5 hz5
    have ez5 := i_mul hz5 (show (3 : Int32).toInt = 3 from by decide) (show y.toInt = y.toInt from rfl)
    refine hp_s (pc' := 44) (st' := [.int 1, .int z5, .ref 89, .int (rI p 89 z4.toInt.toNat)]) rfl rfl rfl ?_
    refine hp_z (pc' := 45) (e := z5 + 1) (st' := [.ref 89, .int (rI p 89 z4.toInt.toNat)]) rfl rfl rfl ?_
    intro z6 hz6
    have ez6 := i_add hz6 (show z5.toInt = z5.toInt from rfl) (show (1 : Int32).toInt = 1 from by decide)
    refine hp_ld (t := 100) (v := (rI p 89 z6.toInt.toNat)) rfl (.inl rfl) rfl rfl rfl ?_
    intro (g4a : 0 ≤ z6.toInt) (g4b : z6.toInt < 30)
    have qd : (rI p 89 z6.toInt.toNat) = rI p 89 (3 * y.toInt.toNat + 1) := by congr 1; omega
    have td : ((rI p 89 z6.toInt.toNat)).toInt = (rI p 89 (3 * y.toInt.toNat + 1)).toInt := by rw [qd]
    refine hp_ic (pc' := 49) (t := 72) (a := (rI p 89 z4.toInt.toNat).toInt) (b := (rI p 89 z6.toInt.toNat).toInt) rfl rfl rfl rfl rfl (fun (h3 : (rI p 89 z4.toInt.toNat).toInt ≠ (rI p 89 z6.toInt.toNat).toInt) => ?_) (fun (h4 : ¬ ((rI p 89 z4.toInt.toNat).toInt ≠ (rI p 89 z6.toInt.toNat).toInt)) => ?_)
    ·
      refine hp_s (pc' := 73) (st' := [.int 1]) rfl rfl rfl ?_
      refine hp_go (pc' := 77) rfl rfl rfl ?_
      refine hp_s (pc' := 79) (ls' := [(5, .int 1), (4, .int 0), (0, .ref 66), (1, .int x), (2, .int y), (3, .int h)]) (st' := []) rfl rfl rfl ?_
      refine hp_s (pc' := 81) (st' := [.int 0]) rfl rfl rfl ?_
      refine hp_go (pc' := 89) rfl rfl rfl ?_
      refine hp_s (pc' := 90) (st' := [.ref 66]) rfl rfl rfl ?_
      refine hp_getr (k := 35) (w := .ref 89) (pc' := 93) rfl rfl rfl rfl rfl ?_
      refine hp_s (pc' := 94) (st' := [.int 3, .ref 89]) rfl rfl rfl ?_
      refine hp_s (pc' := 95) (st' := [.int x, .int 3, .ref 89]) rfl rfl rfl ?_
      refine hp_z (pc' := 96) (e := 3 * x) (st' := [.ref 89]) rfl rfl rfl ?_
      intro z7 hz7
      have ez7 := i_mul hz7 (show (3 : Int32).toInt = 3 from by decide) (show x.toInt = x.toInt from rfl)
      refine hp_s (pc' := 97) (st' := [.int 2, .int z7, .ref 89]) rfl rfl rfl ?_
      refine hp_z (pc' := 98) (e := z7 + 2) (st' := [.ref 89]) rfl rfl rfl ?_
      intro z8 hz8
      have ez8 := i_add hz8 (show z7.toInt = z7.toInt from rfl) (show (2 : Int32).toInt = 2 from by decide)
      refine hp_ld (t := 100) (v := (rI p 89 z8.toInt.toNat)) rfl (.inl rfl) rfl rfl rfl ?_
      intro (g5a : 0 ≤ z8.toInt) (g5b : z8.toInt < 30)
      have qg : (rI p 89 z8.toInt.toNat) = rI p 89 (3 * x.toInt.toNat + 2) := by congr 1; omega
      have tg : ((rI p 89 z8.toInt.toNat)).toInt = (rI p 89 (3 * x.toInt.toNat + 2)).toInt := by rw [qg]
      refine hp_s (pc' := 100) (st' := [.ref 66, .int (rI p 89 z8.toInt.toNat)]) rfl rfl rfl ?_
      refine hp_getr (k := 35) (w := .ref 89) (pc' := 103) rfl rfl rfl rfl rfl ?_
      refine hp_s (pc' := 104) (st' := [.int 3, .ref 89, .int (rI p 89 z8.toInt.toNat)]) rfl rfl rfl ?_
      refine hp_s (pc' := 105) (st' := [.int y, .int 3, .ref 89, .int (rI p 89 z8.toInt.toNat)]) rfl rfl rfl ?_
      refine hp_z (pc' := 106) (e := 3 * y) (st' := [.ref 89, .int (rI p 89 z8.toInt.toNat)]) rfl rfl rfl ?_
      intro z9 hz9
      have ez9 := i_mul hz9 (show (3 : Int32).toInt = 3 from by decide) (show y.toInt = y.toInt from rfl)
      refine hp_s (pc' := 107) (st' := [.int 2, .int z9, .ref 89, .int (rI p 89 z8.toInt.toNat)]) rfl rfl rfl ?_
      refine hp_z (pc' := 108) (e := z9 + 2) (st' := [.ref 89, .int (rI p 89 z8.toInt.toNat)]) rfl rfl rfl ?_
      intro z10 hz10
      have ez10 := i_add hz10 (show z9.toInt = z9.toInt from rfl) (show (2 : Int32).toInt = 2 from by decide)
      refine hp_ld (t := 100) (v := (rI p 89 z10.toInt.toNat)) rfl (.inl rfl) rfl rfl rfl ?_
      intro (g6a : 0 ≤ z10.toInt) (g6b : z10.toInt < 30)
      have qh : (rI p 89 z10.toInt.toNat) = rI p 89 (3 * y.toInt.toNat + 2) := by congr 1; omega
      have th : ((rI p 89 z10.toInt.toNat)).toInt = (rI p 89 (3 * y.toInt.toNat + 2)).toInt := by rw [qh]
      refine hp_z (pc' := 110) (e := (rI p 89 z8.toInt.toNat) ^^^ (rI p 89 z10.toInt.toNat)) (st' := []) rfl rfl rfl ?_
      intro z11 hz11
      have hxb : 0 ≤ z11.toInt ∧ z11.toInt < 64 := by rw [hz11, qg, qh]; exact xor_b (pre0 _).1 (pre0 _).2 (pre0 _).1 (pre0 _).2
      obtain ⟨hx1, hx2⟩ := hxb
      refine hp_cs (kd := 0) (as := [.int z11]) (rest := []) (pc' := 113) rfl rfl rfl rfl rfl rfl rfl (fun d1 => ?_)
      refine s_bitsOf (xi := z11.toInt) rfl (by first | assumption | omega) (by first | assumption | omega) ?_
      intro y1 h5
      have hbc : y1.toInt = (bcn (rI p 89 (3 * x.toInt.toNat + 2) ^^^ rI p 89 (3 * y.toInt.toNat + 2))).toInt := by rw [h5, hz11, qg, qh]
      refine hp_id (st := [.int y1]) ?_
      refine hp_s (pc' := 114) (st' := [.int h, .int y1]) rfl rfl rfl ?_
      refine hp_ic (pc' := 117) (t := 121) (a := y1.toInt) (b := h.toInt) rfl rfl rfl rfl rfl (fun (h6 : y1.toInt ≤ h.toInt) => ?_) (fun (h7 : ¬ (y1.toInt ≤ h.toInt)) => ?_)
      ·
        refine hp_s (pc' := 122) (st' := [.int 0]) rfl rfl rfl ?_
        refine hp_rb rfl rfl (fun _ => ?_)
        refine k1 (fun g => ?_)
        rcases g with g | ⟨g1, g2⟩
        · have g : h.toInt < (bcn (rI p 89 (3 * x.toInt.toNat + 2) ^^^ rI p 89 (3 * y.toInt.toNat + 2))).toInt := g
          omega
        · have g1 := congrArg Int32.toInt (show rI p 89 (3 * x.toInt.toNat) = rI p 89 (3 * y.toInt.toNat) from g1)
          rcases g2 with g2 | g2
          · exact g2 (Int32.toInt_inj.mp (show (rI p 89 (3 * x.toInt.toNat + 2)).toInt = (rI p 89 (3 * y.toInt.toNat + 2)).toInt by omega))
          · exact g2 (Int32.toInt_inj.mp (show (rI p 89 (3 * x.toInt.toNat + 1)).toInt = (rI p 89 (3 * y.toInt.toNat + 1)).toInt by omega))
      ·
        refine hp_s (pc' := 118) (st' := [.int 1]) rfl rfl rfl ?_
        refine hp_go (pc' := 122) rfl rfl rfl ?_
        refine hp_rb rfl rfl (fun _ => ?_)
        exact k0 (Or.inl (show h.toInt < (bcn (rI p 89 (3 * x.toInt.toNat + 2) ^^^ rI p 89 (3 * y.toInt.toNat + 2))).toInt by omega))
    ·
      refine hp_s (pc' := 50) (st' := [.ref 66]) rfl rfl rfl ?_
      refine hp_getr (k := 35) (w := .ref 89) (pc' := 53) rfl rfl rfl rfl rfl ?_
      refine hp_s (pc' := 54) (st' := [.int 3, .ref 89]) rfl rfl rfl ?_
      refine hp_s (pc' := 55) (st' := [.int x, .int 3, .ref 89]) rfl rfl rfl ?_
      refine hp_z (pc' := 56) (e := 3 * x) (st' := [.ref 89]) rfl rfl rfl ?_
      intro z12 hz12
      have ez12 := i_mul hz12 (show (3 : Int32).toInt = 3 from by decide) (show x.toInt = x.toInt from rfl)
      refine hp_s (pc' := 57) (st' := [.int 2, .int z12, .ref 89]) rfl rfl rfl ?_
      refine hp_z (pc' := 58) (e := z12 + 2) (st' := [.ref 89]) rfl rfl rfl ?_
      intro z13 hz13
      have ez13 := i_add hz13 (show z12.toInt = z12.toInt from rfl) (show (2 : Int32).toInt = 2 from by decide)
      refine hp_ld (t := 100) (v := (rI p 89 z13.toInt.toNat)) rfl (.inl rfl) rfl rfl rfl ?_
      intro (g7a : 0 ≤ z13.toInt) (g7b : z13.toInt < 30)
      have qe : (rI p 89 z13.toInt.toNat) = rI p 89 (3 * x.toInt.toNat + 2) := by congr 1; omega
      have te : ((rI p 89 z13.toInt.toNat)).toInt = (rI p 89 (3 * x.toInt.toNat + 2)).toInt := by rw [qe]
      refine hp_s (pc' := 60) (st' := [.ref 66, .int (rI p 89 z13.toInt.toNat)]) rfl rfl rfl ?_
      refine hp_getr (k := 35) (w := .ref 89) (pc' := 63) rfl rfl rfl rfl rfl ?_
      refine hp_s (pc' := 64) (st' := [.int 3, .ref 89, .int (rI p 89 z13.toInt.toNat)]) rfl rfl rfl ?_
      refine hp_s (pc' := 65) (st' := [.int y, .int 3, .ref 89, .int (rI p 89 z13.toInt.toNat)]) rfl rfl rfl ?_
      refine hp_z (pc' := 66) (e := 3 * y) (st' := [.ref 89, .int (rI p 89 z13.toInt.toNat)]) rfl rfl rfl ?_
      intro z14 hz14
      have ez14 := i_mul hz14 (show (3 : Int32).toInt = 3 from by decide) (show y.toInt = y.toInt from rfl)
      refine hp_s (pc' := 67) (st' := [.int 2, .int z14, .ref 89, .int (rI p 89 z13.toInt.toNat)]) rfl rfl rfl ?_
      refine hp_z (pc' := 68) (e := z14 + 2) (st' := [.ref 89, .int (rI p 89 z13.toInt.toNat)]) rfl rfl rfl ?_
      intro z15 hz15
      have ez15 := i_add hz15 (show z14.toInt = z14.toInt from rfl) (show (2 : Int32).toInt = 2 from by decide)
      refine hp_ld (t := 100) (v := (rI p 89 z15.toInt.toNat)) rfl (.inl rfl) rfl rfl rfl ?_
      intro (g8a : 0 ≤ z15.toInt) (g8b : z15.toInt < 30)
      have qf : (rI p 89 z15.toInt.toNat) = rI p 89 (3 * y.toInt.toNat + 2) := by congr 1; omega
      have tf : ((rI p 89 z15.toInt.toNat)).toInt = (rI p 89 (3 * y.toInt.toNat + 2)).toInt := by rw [qf]
      refine hp_ic (pc' := 72) (t := 76) (a := (rI p 89 z13.toInt.toNat).toInt) (b := (rI p 89 z15.toInt.toNat).toInt) rfl rfl rfl rfl rfl (fun (h8 : (rI p 89 z13.toInt.toNat).toInt = (rI p 89 z15.toInt.toNat).toInt) => ?_) (fun (h9 : ¬ ((rI p 89 z13.toInt.toNat).toInt = (rI p 89 z15.toInt.toNat).toInt)) => ?_)
      ·
        refine hp_s (pc' := 77) (st' := [.int 0]) rfl rfl rfl ?_
        refine hp_s (pc' := 79) (ls' := [(5, .int 0), (4, .int 0), (0, .ref 66), (1, .int x), (2, .int y), (3, .int h)]) (st' := []) rfl rfl rfl ?_
        refine hp_s (pc' := 81) (st' := [.int 0]) rfl rfl rfl ?_
        refine hp_go (pc' := 89) rfl rfl rfl ?_
        refine hp_s (pc' := 90) (st' := [.ref 66]) rfl rfl rfl ?_
        refine hp_getr (k := 35) (w := .ref 89) (pc' := 93) rfl rfl rfl rfl rfl ?_
        refine hp_s (pc' := 94) (st' := [.int 3, .ref 89]) rfl rfl rfl ?_
        refine hp_s (pc' := 95) (st' := [.int x, .int 3, .ref 89]) rfl rfl rfl ?_
        refine hp_z (pc' := 96) (e := 3 * x) (st' := [.ref 89]) rfl rfl rfl ?_
        intro z16 hz16
        have ez16 := i_mul hz16 (show (3 : Int32).toInt = 3 from by decide) (show x.toInt = x.toInt from rfl)
        refine hp_s (pc' := 97) (st' := [.int 2, .int z16, .ref 89]) rfl rfl rfl ?_
        refine hp_z (pc' := 98) (e := z16 + 2) (st' := [.ref 89]) rfl rfl rfl ?_
        intro z17 hz17
        have ez17 := i_add hz17 (show z16.toInt = z16.toInt from rfl) (show (2 : Int32).toInt = 2 from by decide)
        refine hp_ld (t := 100) (v := (rI p 89 z17.toInt.toNat)) rfl (.inl rfl) rfl rfl rfl ?_
        intro (g9a : 0 ≤ z17.toInt) (g9b : z17.toInt < 30)
        have qg : (rI p 89 z17.toInt.toNat) = rI p 89 (3 * x.toInt.toNat + 2) := by congr 1; omega
        have tg : ((rI p 89 z17.toInt.toNat)).toInt = (rI p 89 (3 * x.toInt.toNat + 2)).toInt := by rw [qg]
        refine hp_s (pc' := 100) (st' := [.ref 66, .int (rI p 89 z17.toInt.toNat)]) rfl rfl rfl ?_
        refine hp_getr (k := 35) (w := .ref 89) (pc' := 103) rfl rfl rfl rfl rfl ?_
        refine hp_s (pc' := 104) (st' := [.int 3, .ref 89, .int (rI p 89 z17.toInt.toNat)]) rfl rfl rfl ?_
        refine hp_s (pc' := 105) (st' := [.int y, .int 3, .ref 89, .int (rI p 89 z17.toInt.toNat)]) rfl rfl rfl ?_
        refine hp_z (pc' := 106) (e := 3 * y) (st' := [.ref 89, .int (rI p 89 z17.toInt.toNat)]) rfl rfl rfl ?_
        intro z18 hz18
        have ez18 := i_mul hz18 (show (3 : Int32).toInt = 3 from by decide) (show y.toInt = y.toInt from rfl)
        refine hp_s (pc' := 107) (st' := [.int 2, .int z18, .ref 89, .int (rI p 89 z17.toInt.toNat)]) rfl rfl rfl ?_
        refine hp_z (pc' := 108) (e := z18 + 2) (st' := [.ref 89, .int (rI p 89 z17.toInt.toNat)]) rfl rfl rfl ?_
        intro z19 hz19
        have ez19 := i_add hz19 (show z18.toInt = z18.toInt from rfl) (show (2 : Int32).toInt = 2 from by decide)
        refine hp_ld (t := 100) (v := (rI p 89 z19.toInt.toNat)) rfl (.inl rfl) rfl rfl rfl ?_
        intro (g10a : 0 ≤ z19.toInt) (g10b : z19.toInt < 30)
        have qh : (rI p 89 z19.toInt.toNat) = rI p 89 (3 * y.toInt.toNat + 2) := by congr 1; omega
        have th : ((rI p 89 z19.toInt.toNat)).toInt = (rI p 89 (3 * y.toInt.toNat + 2)).toInt := by rw [qh]
        refine hp_z (pc' := 110) (e := (rI p 89 z17.toInt.toNat) ^^^ (rI p 89 z19.toInt.toNat)) (st' := []) rfl rfl rfl ?_
        intro z20 hz20
        have hxb : 0 ≤ z20.toInt ∧ z20.toInt < 64 := by rw [hz20, qg, qh]; exact xor_b (pre0 _).1 (pre0 _).2 (pre0 _).1 (pre0 _).2
        obtain ⟨hx1, hx2⟩ := hxb
        refine hp_cs (kd := 0) (as := [.int z20]) (rest := []) (pc' := 113) rfl rfl rfl rfl rfl rfl rfl (fun d2 => ?_)
        refine s_bitsOf (xi := z20.toInt) rfl (by first | assumption | omega) (by first | assumption | omega) ?_
        intro y2 h10
        have hbc : y2.toInt = (bcn (rI p 89 (3 * x.toInt.toNat + 2) ^^^ rI p 89 (3 * y.toInt.toNat + 2))).toInt := by rw [h10, hz20, qg, qh]
        refine hp_id (st := [.int y2]) ?_
        refine hp_s (pc' := 114) (st' := [.int h, .int y2]) rfl rfl rfl ?_
        refine hp_ic (pc' := 117) (t := 121) (a := y2.toInt) (b := h.toInt) rfl rfl rfl rfl rfl (fun (h11 : y2.toInt ≤ h.toInt) => ?_) (fun (h12 : ¬ (y2.toInt ≤ h.toInt)) => ?_)
        ·
          refine hp_s (pc' := 122) (st' := [.int 0]) rfl rfl rfl ?_
          refine hp_rb rfl rfl (fun _ => ?_)
          refine k1 (fun g => ?_)
          rcases g with g | ⟨g1, g2⟩
          · have g : h.toInt < (bcn (rI p 89 (3 * x.toInt.toNat + 2) ^^^ rI p 89 (3 * y.toInt.toNat + 2))).toInt := g
            omega
          · have g1 := congrArg Int32.toInt (show rI p 89 (3 * x.toInt.toNat) = rI p 89 (3 * y.toInt.toNat) from g1)
            rcases g2 with g2 | g2
            · exact g2 (Int32.toInt_inj.mp (show (rI p 89 (3 * x.toInt.toNat + 2)).toInt = (rI p 89 (3 * y.toInt.toNat + 2)).toInt by omega))
            · exact g2 (Int32.toInt_inj.mp (show (rI p 89 (3 * x.toInt.toNat + 1)).toInt = (rI p 89 (3 * y.toInt.toNat + 1)).toInt by omega))
        ·
          refine hp_s (pc' := 118) (st' := [.int 1]) rfl rfl rfl ?_
          refine hp_go (pc' := 122) rfl rfl rfl ?_
          refine hp_rb rfl rfl (fun _ => ?_)
          exact k0 (Or.inl (show h.toInt < (bcn (rI p 89 (3 * x.toInt.toNat + 2) ^^^ rI p 89 (3 * y.toInt.toNat + 2))).toInt by omega))
      ·
        refine hp_s (pc' := 73) (st' := [.int 1]) rfl rfl rfl ?_
        refine hp_go (pc' := 77) rfl rfl rfl ?_
        refine hp_s (pc' := 79) (ls' := [(5, .int 1), (4, .int 0), (0, .ref 66), (1, .int x), (2, .int y), (3, .int h)]) (st' := []) rfl rfl rfl ?_
        refine hp_s (pc' := 81) (st' := [.int 0]) rfl rfl rfl ?_
        refine hp_go (pc' := 89) rfl rfl rfl ?_
        refine hp_s (pc' := 90) (st' := [.ref 66]) rfl rfl rfl ?_
        refine hp_getr (k := 35) (w := .ref 89) (pc' := 93) rfl rfl rfl rfl rfl ?_
        refine hp_s (pc' := 94) (st' := [.int 3, .ref 89]) rfl rfl rfl ?_
        refine hp_s (pc' := 95) (st' := [.int x, .int 3, .ref 89]) rfl rfl rfl ?_
        refine hp_z (pc' := 96) (e := 3 * x) (st' := [.ref 89]) rfl rfl rfl ?_
        intro z21 hz21
        have ez21 := i_mul hz21 (show (3 : Int32).toInt = 3 from by decide) (show x.toInt = x.toInt from rfl)
        refine hp_s (pc' := 97) (st' := [.int 2, .int z21, .ref 89]) rfl rfl rfl ?_
        refine hp_z (pc' := 98) (e := z21 + 2) (st' := [.ref 89]) rfl rfl rfl ?_
        intro z22 hz22
        have ez22 := i_add hz22 (show z21.toInt = z21.toInt from rfl) (show (2 : Int32).toInt = 2 from by decide)
        refine hp_ld (t := 100) (v := (rI p 89 z22.toInt.toNat)) rfl (.inl rfl) rfl rfl rfl ?_
        intro (g11a : 0 ≤ z22.toInt) (g11b : z22.toInt < 30)
        have qg : (rI p 89 z22.toInt.toNat) = rI p 89 (3 * x.toInt.toNat + 2) := by congr 1; omega
        have tg : ((rI p 89 z22.toInt.toNat)).toInt = (rI p 89 (3 * x.toInt.toNat + 2)).toInt := by rw [qg]
        refine hp_s (pc' := 100) (st' := [.ref 66, .int (rI p 89 z22.toInt.toNat)]) rfl rfl rfl ?_
        refine hp_getr (k := 35) (w := .ref 89) (pc' := 103) rfl rfl rfl rfl rfl ?_
        refine hp_s (pc' := 104) (st' := [.int 3, .ref 89, .int (rI p 89 z22.toInt.toNat)]) rfl rfl rfl ?_
        refine hp_s (pc' := 105) (st' := [.int y, .int 3, .ref 89, .int (rI p 89 z22.toInt.toNat)]) rfl rfl rfl ?_
        refine hp_z (pc' := 106) (e := 3 * y) (st' := [.ref 89, .int (rI p 89 z22.toInt.toNat)]) rfl rfl rfl ?_
        intro z23 hz23
        have ez23 := i_mul hz23 (show (3 : Int32).toInt = 3 from by decide) (show y.toInt = y.toInt from rfl)
        refine hp_s (pc' := 107) (st' := [.int 2, .int z23, .ref 89, .int (rI p 89 z22.toInt.toNat)]) rfl rfl rfl ?_
        refine hp_z (pc' := 108) (e := z23 + 2) (st' := [.ref 89, .int (rI p 89 z22.toInt.toNat)]) rfl rfl rfl ?_
        intro z24 hz24
        have ez24 := i_add hz24 (show z23.toInt = z23.toInt from rfl) (show (2 : Int32).toInt = 2 from by decide)
        refine hp_ld (t := 100) (v := (rI p 89 z24.toInt.toNat)) rfl (.inl rfl) rfl rfl rfl ?_
        intro (g12a : 0 ≤ z24.toInt) (g12b : z24.toInt < 30)
        have qh : (rI p 89 z24.toInt.toNat) = rI p 89 (3 * y.toInt.toNat + 2) := by congr 1; omega
        have th : ((rI p 89 z24.toInt.toNat)).toInt = (rI p 89 (3 * y.toInt.toNat + 2)).toInt := by rw [qh]
        refine hp_z (pc' := 110) (e := (rI p 89 z22.toInt.toNat) ^^^ (rI p 89 z24.toInt.toNat)) (st' := []) rfl rfl rfl ?_
        intro z25 hz25
        have hxb : 0 ≤ z25.toInt ∧ z25.toInt < 64 := by rw [hz25, qg, qh]; exact xor_b (pre0 _).1 (pre0 _).2 (pre0 _).1 (pre0 _).2
        obtain ⟨hx1, hx2⟩ := hxb
        refine hp_cs (kd := 0) (as := [.int z25]) (rest := []) (pc' := 113) rfl rfl rfl rfl rfl rfl rfl (fun d3 => ?_)
        refine s_bitsOf (xi := z25.toInt) rfl (by first | assumption | omega) (by first | assumption | omega) ?_
        intro y3 h13
        have hbc : y3.toInt = (bcn (rI p 89 (3 * x.toInt.toNat + 2) ^^^ rI p 89 (3 * y.toInt.toNat + 2))).toInt := by rw [h13, hz25, qg, qh]
        refine hp_id (st := [.int y3]) ?_
        refine hp_s (pc' := 114) (st' := [.int h, .int y3]) rfl rfl rfl ?_
        refine hp_ic (pc' := 117) (t := 121) (a := y3.toInt) (b := h.toInt) rfl rfl rfl rfl rfl (fun (h14 : y3.toInt ≤ h.toInt) => ?_) (fun (h15 : ¬ (y3.toInt ≤ h.toInt)) => ?_)
        ·
          refine hp_s (pc' := 122) (st' := [.int 0]) rfl rfl rfl ?_
          refine hp_rb rfl rfl (fun _ => ?_)
          refine k1 (fun g => ?_)
          rcases g with g | ⟨g1, g2⟩
          · have g : h.toInt < (bcn (rI p 89 (3 * x.toInt.toNat + 2) ^^^ rI p 89 (3 * y.toInt.toNat + 2))).toInt := g
            omega
          · have g1 := congrArg Int32.toInt (show rI p 89 (3 * x.toInt.toNat) = rI p 89 (3 * y.toInt.toNat) from g1)
            rcases g2 with g2 | g2
            · exact g2 (Int32.toInt_inj.mp (show (rI p 89 (3 * x.toInt.toNat + 2)).toInt = (rI p 89 (3 * y.toInt.toNat + 2)).toInt by omega))
            · exact g2 (Int32.toInt_inj.mp (show (rI p 89 (3 * x.toInt.toNat + 1)).toInt = (rI p 89 (3 * y.toInt.toNat + 1)).toInt by omega))
        ·
          refine hp_s (pc' := 118) (st' := [.int 1]) rfl rfl rfl ?_
          refine hp_go (pc' := 122) rfl rfl rfl ?_
          refine hp_rb rfl rfl (fun _ => ?_)
          exact k0 (Or.inl (show h.toInt < (bcn (rI p 89 (3 * x.toInt.toNat + 2) ^^^ rI p 89 (3 * y.toInt.toNat + 2))).toInt by omega))
  ·
    refine hp_s (pc' := 20) (st' := [.int 1]) rfl rfl rfl ?_
    refine hp_go (pc' := 24) rfl rfl rfl ?_
    refine hp_s (pc' := 26) (ls' := [(4, .int 1), (0, .ref 66), (1, .int x), (2, .int y), (3, .int h)]) (st' := []) rfl rfl rfl ?_
    refine hp_s (pc' := 27) (st' := [.ref 66]) rfl rfl rfl ?_
    refine hp_getr (k := 35) (w := .ref 89) (pc' := 30) rfl rfl rfl rfl rfl ?_
    refine hp_s (pc' := 31) (st' := [.int 3, .ref 89]) rfl rfl rfl ?_
    refine hp_s (pc' := 32) (st' := [.int x, .int 3, .ref 89]) rfl rfl rfl ?_
    refine hp_z (pc' := 33) (e := 3 * x) (st' := [.ref 89]) rfl rfl rfl ?_
    intro z26 hz26
    have ez26 := i_mul hz26 (show (3 : Int32).toInt = 3 from by decide) (show x.toInt = x.toInt from rfl)
    refine hp_s (pc' := 34) (st' := [.int 1, .int z26, .ref 89]) rfl rfl rfl ?_
    refine hp_z (pc' := 35) (e := z26 + 1) (st' := [.ref 89]) rfl rfl rfl ?_
    intro z27 hz27
    have ez27 := i_add hz27 (show z26.toInt = z26.toInt from rfl) (show (1 : Int32).toInt = 1 from by decide)
    refine hp_ld (t := 100) (v := (rI p 89 z27.toInt.toNat)) rfl (.inl rfl) rfl rfl rfl ?_
    intro (g13a : 0 ≤ z27.toInt) (g13b : z27.toInt < 30)
    have qc : (rI p 89 z27.toInt.toNat) = rI p 89 (3 * x.toInt.toNat + 1) := by congr 1; omega
    have tc : ((rI p 89 z27.toInt.toNat)).toInt = (rI p 89 (3 * x.toInt.toNat + 1)).toInt := by rw [qc]
    refine hp_s (pc' := 37) (st' := [.ref 66, .int (rI p 89 z27.toInt.toNat)]) rfl rfl rfl ?_
    refine hp_getr (k := 35) (w := .ref 89) (pc' := 40) rfl rfl rfl rfl rfl ?_
    refine hp_s (pc' := 41) (st' := [.int 3, .ref 89, .int (rI p 89 z27.toInt.toNat)]) rfl rfl rfl ?_
    refine hp_s (pc' := 42) (st' := [.int y, .int 3, .ref 89, .int (rI p 89 z27.toInt.toNat)]) rfl rfl rfl ?_
    refine hp_z (pc' := 43) (e := 3 * y) (st' := [.ref 89, .int (rI p 89 z27.toInt.toNat)]) rfl rfl rfl ?_
    intro z28 hz28
    have ez28 := i_mul hz28 (show (3 : Int32).toInt = 3 from by decide) (show y.toInt = y.toInt from rfl)
    refine hp_s (pc' := 44) (st' := [.int 1, .int z28, .ref 89, .int (rI p 89 z27.toInt.toNat)]) rfl rfl rfl ?_
    refine hp_z (pc' := 45) (e := z28 + 1) (st' := [.ref 89, .int (rI p 89 z27.toInt.toNat)]) rfl rfl rfl ?_
    intro z29 hz29
    have ez29 := i_add hz29 (show z28.toInt = z28.toInt from rfl) (show (1 : Int32).toInt = 1 from by decide)
    refine hp_ld (t := 100) (v := (rI p 89 z29.toInt.toNat)) rfl (.inl rfl) rfl rfl rfl ?_
    intro (g14a : 0 ≤ z29.toInt) (g14b : z29.toInt < 30)
    have qd : (rI p 89 z29.toInt.toNat) = rI p 89 (3 * y.toInt.toNat + 1) := by congr 1; omega
    have td : ((rI p 89 z29.toInt.toNat)).toInt = (rI p 89 (3 * y.toInt.toNat + 1)).toInt := by rw [qd]
    refine hp_ic (pc' := 49) (t := 72) (a := (rI p 89 z27.toInt.toNat).toInt) (b := (rI p 89 z29.toInt.toNat).toInt) rfl rfl rfl rfl rfl (fun (h16 : (rI p 89 z27.toInt.toNat).toInt ≠ (rI p 89 z29.toInt.toNat).toInt) => ?_) (fun (h17 : ¬ ((rI p 89 z27.toInt.toNat).toInt ≠ (rI p 89 z29.toInt.toNat).toInt)) => ?_)
    ·
      refine hp_s (pc' := 73) (st' := [.int 1]) rfl rfl rfl ?_
      refine hp_go (pc' := 77) rfl rfl rfl ?_
      refine hp_s (pc' := 79) (ls' := [(5, .int 1), (4, .int 1), (0, .ref 66), (1, .int x), (2, .int y), (3, .int h)]) (st' := []) rfl rfl rfl ?_
      refine hp_s (pc' := 81) (st' := [.int 1]) rfl rfl rfl ?_
      refine hp_go (pc' := 84) rfl rfl rfl ?_
      refine hp_s (pc' := 86) (st' := [.int 1]) rfl rfl rfl ?_
      refine hp_go (pc' := 117) rfl rfl rfl ?_
      refine hp_s (pc' := 118) (st' := [.int 1]) rfl rfl rfl ?_
      refine hp_go (pc' := 122) rfl rfl rfl ?_
      refine hp_rb rfl rfl (fun _ => ?_)
      exact k0 (Or.inr ⟨(Int32.toInt_inj.mp (show (rI p 89 (3 * x.toInt.toNat)).toInt = (rI p 89 (3 * y.toInt.toNat)).toInt by omega)), Or.inr (fun g => absurd (congrArg Int32.toInt (show rI p 89 (3 * x.toInt.toNat + 1) = rI p 89 (3 * y.toInt.toNat + 1) from g)) (by omega))⟩)
    ·
      refine hp_s (pc' := 50) (st' := [.ref 66]) rfl rfl rfl ?_
      refine hp_getr (k := 35) (w := .ref 89) (pc' := 53) rfl rfl rfl rfl rfl ?_
      refine hp_s (pc' := 54) (st' := [.int 3, .ref 89]) rfl rfl rfl ?_
      refine hp_s (pc' := 55) (st' := [.int x, .int 3, .ref 89]) rfl rfl rfl ?_
      refine hp_z (pc' := 56) (e := 3 * x) (st' := [.ref 89]) rfl rfl rfl ?_
      intro z30 hz30
      have ez30 := i_mul hz30 (show (3 : Int32).toInt = 3 from by decide) (show x.toInt = x.toInt from rfl)
      refine hp_s (pc' := 57) (st' := [.int 2, .int z30, .ref 89]) rfl rfl rfl ?_
      refine hp_z (pc' := 58) (e := z30 + 2) (st' := [.ref 89]) rfl rfl rfl ?_
      intro z31 hz31
      have ez31 := i_add hz31 (show z30.toInt = z30.toInt from rfl) (show (2 : Int32).toInt = 2 from by decide)
      refine hp_ld (t := 100) (v := (rI p 89 z31.toInt.toNat)) rfl (.inl rfl) rfl rfl rfl ?_
      intro (g15a : 0 ≤ z31.toInt) (g15b : z31.toInt < 30)
      have qe : (rI p 89 z31.toInt.toNat) = rI p 89 (3 * x.toInt.toNat + 2) := by congr 1; omega
      have te : ((rI p 89 z31.toInt.toNat)).toInt = (rI p 89 (3 * x.toInt.toNat + 2)).toInt := by rw [qe]
      refine hp_s (pc' := 60) (st' := [.ref 66, .int (rI p 89 z31.toInt.toNat)]) rfl rfl rfl ?_
      refine hp_getr (k := 35) (w := .ref 89) (pc' := 63) rfl rfl rfl rfl rfl ?_
      refine hp_s (pc' := 64) (st' := [.int 3, .ref 89, .int (rI p 89 z31.toInt.toNat)]) rfl rfl rfl ?_
      refine hp_s (pc' := 65) (st' := [.int y, .int 3, .ref 89, .int (rI p 89 z31.toInt.toNat)]) rfl rfl rfl ?_
      refine hp_z (pc' := 66) (e := 3 * y) (st' := [.ref 89, .int (rI p 89 z31.toInt.toNat)]) rfl rfl rfl ?_
      intro z32 hz32
      have ez32 := i_mul hz32 (show (3 : Int32).toInt = 3 from by decide) (show y.toInt = y.toInt from rfl)
      refine hp_s (pc' := 67) (st' := [.int 2, .int z32, .ref 89, .int (rI p 89 z31.toInt.toNat)]) rfl rfl rfl ?_
      refine hp_z (pc' := 68) (e := z32 + 2) (st' := [.ref 89, .int (rI p 89 z31.toInt.toNat)]) rfl rfl rfl ?_
      intro z33 hz33
      have ez33 := i_add hz33 (show z32.toInt = z32.toInt from rfl) (show (2 : Int32).toInt = 2 from by decide)
      refine hp_ld (t := 100) (v := (rI p 89 z33.toInt.toNat)) rfl (.inl rfl) rfl rfl rfl ?_
      intro (g16a : 0 ≤ z33.toInt) (g16b : z33.toInt < 30)
      have qf : (rI p 89 z33.toInt.toNat) = rI p 89 (3 * y.toInt.toNat + 2) := by congr 1; omega
      have tf : ((rI p 89 z33.toInt.toNat)).toInt = (rI p 89 (3 * y.toInt.toNat + 2)).toInt := by rw [qf]
      refine hp_ic (pc' := 72) (t := 76) (a := (rI p 89 z31.toInt.toNat).toInt) (b := (rI p 89 z33.toInt.toNat).toInt) rfl rfl rfl rfl rfl (fun (h18 : (rI p 89 z31.toInt.toNat).toInt = (rI p 89 z33.toInt.toNat).toInt) => ?_) (fun (h19 : ¬ ((rI p 89 z31.toInt.toNat).toInt = (rI p 89 z33.toInt.toNat).toInt)) => ?_)
      ·
        refine hp_s (pc' := 77) (st' := [.int 0]) rfl rfl rfl ?_
        refine hp_s (pc' := 79) (ls' := [(5, .int 0), (4, .int 1), (0, .ref 66), (1, .int x), (2, .int y), (3, .int h)]) (st' := []) rfl rfl rfl ?_
        refine hp_s (pc' := 81) (st' := [.int 1]) rfl rfl rfl ?_
        refine hp_go (pc' := 84) rfl rfl rfl ?_
        refine hp_s (pc' := 86) (st' := [.int 0]) rfl rfl rfl ?_
        refine hp_go (pc' := 89) rfl rfl rfl ?_
        refine hp_s (pc' := 90) (st' := [.ref 66]) rfl rfl rfl ?_
        refine hp_getr (k := 35) (w := .ref 89) (pc' := 93) rfl rfl rfl rfl rfl ?_
        refine hp_s (pc' := 94) (st' := [.int 3, .ref 89]) rfl rfl rfl ?_
        refine hp_s (pc' := 95) (st' := [.int x, .int 3, .ref 89]) rfl rfl rfl ?_
        refine hp_z (pc' := 96) (e := 3 * x) (st' := [.ref 89]) rfl rfl rfl ?_
        intro z34 hz34
        have ez34 := i_mul hz34 (show (3 : Int32).toInt = 3 from by decide) (show x.toInt = x.toInt from rfl)
        refine hp_s (pc' := 97) (st' := [.int 2, .int z34, .ref 89]) rfl rfl rfl ?_
        refine hp_z (pc' := 98) (e := z34 + 2) (st' := [.ref 89]) rfl rfl rfl ?_
        intro z35 hz35
        have ez35 := i_add hz35 (show z34.toInt = z34.toInt from rfl) (show (2 : Int32).toInt = 2 from by decide)
        refine hp_ld (t := 100) (v := (rI p 89 z35.toInt.toNat)) rfl (.inl rfl) rfl rfl rfl ?_
        intro (g17a : 0 ≤ z35.toInt) (g17b : z35.toInt < 30)
        have qg : (rI p 89 z35.toInt.toNat) = rI p 89 (3 * x.toInt.toNat + 2) := by congr 1; omega
        have tg : ((rI p 89 z35.toInt.toNat)).toInt = (rI p 89 (3 * x.toInt.toNat + 2)).toInt := by rw [qg]
        refine hp_s (pc' := 100) (st' := [.ref 66, .int (rI p 89 z35.toInt.toNat)]) rfl rfl rfl ?_
        refine hp_getr (k := 35) (w := .ref 89) (pc' := 103) rfl rfl rfl rfl rfl ?_
        refine hp_s (pc' := 104) (st' := [.int 3, .ref 89, .int (rI p 89 z35.toInt.toNat)]) rfl rfl rfl ?_
        refine hp_s (pc' := 105) (st' := [.int y, .int 3, .ref 89, .int (rI p 89 z35.toInt.toNat)]) rfl rfl rfl ?_
        refine hp_z (pc' := 106) (e := 3 * y) (st' := [.ref 89, .int (rI p 89 z35.toInt.toNat)]) rfl rfl rfl ?_
        intro z36 hz36
        have ez36 := i_mul hz36 (show (3 : Int32).toInt = 3 from by decide) (show y.toInt = y.toInt from rfl)
        refine hp_s (pc' := 107) (st' := [.int 2, .int z36, .ref 89, .int (rI p 89 z35.toInt.toNat)]) rfl rfl rfl ?_
        refine hp_z (pc' := 108) (e := z36 + 2) (st' := [.ref 89, .int (rI p 89 z35.toInt.toNat)]) rfl rfl rfl ?_
        intro z37 hz37
        have ez37 := i_add hz37 (show z36.toInt = z36.toInt from rfl) (show (2 : Int32).toInt = 2 from by decide)
        refine hp_ld (t := 100) (v := (rI p 89 z37.toInt.toNat)) rfl (.inl rfl) rfl rfl rfl ?_
        intro (g18a : 0 ≤ z37.toInt) (g18b : z37.toInt < 30)
        have qh : (rI p 89 z37.toInt.toNat) = rI p 89 (3 * y.toInt.toNat + 2) := by congr 1; omega
        have th : ((rI p 89 z37.toInt.toNat)).toInt = (rI p 89 (3 * y.toInt.toNat + 2)).toInt := by rw [qh]
        refine hp_z (pc' := 110) (e := (rI p 89 z35.toInt.toNat) ^^^ (rI p 89 z37.toInt.toNat)) (st' := []) rfl rfl rfl ?_
        intro z38 hz38
        have hxb : 0 ≤ z38.toInt ∧ z38.toInt < 64 := by rw [hz38, qg, qh]; exact xor_b (pre0 _).1 (pre0 _).2 (pre0 _).1 (pre0 _).2
        obtain ⟨hx1, hx2⟩ := hxb
        refine hp_cs (kd := 0) (as := [.int z38]) (rest := []) (pc' := 113) rfl rfl rfl rfl rfl rfl rfl (fun d4 => ?_)
        refine s_bitsOf (xi := z38.toInt) rfl (by first | assumption | omega) (by first | assumption | omega) ?_
        intro y4 h20
        have hbc : y4.toInt = (bcn (rI p 89 (3 * x.toInt.toNat + 2) ^^^ rI p 89 (3 * y.toInt.toNat + 2))).toInt := by rw [h20, hz38, qg, qh]
        refine hp_id (st := [.int y4]) ?_
        refine hp_s (pc' := 114) (st' := [.int h, .int y4]) rfl rfl rfl ?_
        refine hp_ic (pc' := 117) (t := 121) (a := y4.toInt) (b := h.toInt) rfl rfl rfl rfl rfl (fun (h21 : y4.toInt ≤ h.toInt) => ?_) (fun (h22 : ¬ (y4.toInt ≤ h.toInt)) => ?_)
        ·
          refine hp_s (pc' := 122) (st' := [.int 0]) rfl rfl rfl ?_
          refine hp_rb rfl rfl (fun _ => ?_)
          refine k1 (fun g => ?_)
          rcases g with g | ⟨g1, g2⟩
          · have g : h.toInt < (bcn (rI p 89 (3 * x.toInt.toNat + 2) ^^^ rI p 89 (3 * y.toInt.toNat + 2))).toInt := g
            omega
          · have g1 := congrArg Int32.toInt (show rI p 89 (3 * x.toInt.toNat) = rI p 89 (3 * y.toInt.toNat) from g1)
            rcases g2 with g2 | g2
            · exact g2 (Int32.toInt_inj.mp (show (rI p 89 (3 * x.toInt.toNat + 2)).toInt = (rI p 89 (3 * y.toInt.toNat + 2)).toInt by omega))
            · exact g2 (Int32.toInt_inj.mp (show (rI p 89 (3 * x.toInt.toNat + 1)).toInt = (rI p 89 (3 * y.toInt.toNat + 1)).toInt by omega))
        ·
          refine hp_s (pc' := 118) (st' := [.int 1]) rfl rfl rfl ?_
          refine hp_go (pc' := 122) rfl rfl rfl ?_
          refine hp_rb rfl rfl (fun _ => ?_)
          exact k0 (Or.inl (show h.toInt < (bcn (rI p 89 (3 * x.toInt.toNat + 2) ^^^ rI p 89 (3 * y.toInt.toNat + 2))).toInt by omega))
      ·
        refine hp_s (pc' := 73) (st' := [.int 1]) rfl rfl rfl ?_
        refine hp_go (pc' := 77) rfl rfl rfl ?_
        refine hp_s (pc' := 79) (ls' := [(5, .int 1), (4, .int 1), (0, .ref 66), (1, .int x), (2, .int y), (3, .int h)]) (st' := []) rfl rfl rfl ?_
        refine hp_s (pc' := 81) (st' := [.int 1]) rfl rfl rfl ?_
        refine hp_go (pc' := 84) rfl rfl rfl ?_
        refine hp_s (pc' := 86) (st' := [.int 1]) rfl rfl rfl ?_
        refine hp_go (pc' := 117) rfl rfl rfl ?_
        refine hp_s (pc' := 118) (st' := [.int 1]) rfl rfl rfl ?_
        refine hp_go (pc' := 122) rfl rfl rfl ?_
        refine hp_rb rfl rfl (fun _ => ?_)
        exact k0 (Or.inr ⟨(Int32.toInt_inj.mp (show (rI p 89 (3 * x.toInt.toNat)).toInt = (rI p 89 (3 * y.toInt.toNat)).toInt by omega)), Or.inl (fun g => absurd (congrArg Int32.toInt (show rI p 89 (3 * x.toInt.toNat + 2) = rI p 89 (3 * y.toInt.toNat + 2) from g)) (by omega))⟩)
def mkB (p : xH) (N : Nat) (B : Nat → Nat → Prop) : Prop := (rI p 66 34).toInt = (N : Int) ∧ N ≤ 10 ∧ ∀ n, n < N → ∀ c, c < 32 → (bI (rI p 90 n) c = true ↔ c < N ∧ n ≠ c ∧ B n c)
theorem mk_ok {p : xH} {N n X : Nat} {B : Nat → Nat → Prop} {z s : Int32} (hK : mkB p N B) (hXN : ∀ i, tB X i → i < N) (hs : s.toInt = (X : Int)) (hn : n < N) (hz : z = rI p 90 n &&& s) : z.toInt = 0 ↔ ∀ j, tB X j → n ≠ j → ¬ B n j := by
  obtain ⟨k1, k2, k3⟩ := hK
  constructor
  · intro g j hj hne hb
    have hjN := hXN j hj
    have q := bI_zero.mp (show z = 0 from Int32.toInt_inj.mp (by rw [g]; decide)) j (by omega)
    rw [hz, bI_and, (k3 n hn j (by omega)).mpr ⟨hjN, hne, hb⟩, bI_tb hs (by omega), show X.testBit j = true from hj] at q
    cases q
  · intro g
    have : z = 0 := bI_zero.mpr (fun i hi => by
      rw [hz, bI_and]
      cases h1 : bI (rI p 90 n) i with
      | false => rfl
      | true =>
        cases h2 : bI s i with
        | false => rfl
        | true =>
          obtain ⟨a1, a2, a3⟩ := (k3 n hn i hi).mp h1
          rw [bI_tb hs hi] at h2
          exact absurd a3 (g i h2 a2))
    rw [this]
    decide
theorem lp_241 {ro : List (List Int32)} {d : Nat} {Q : Option Value → xH → Prop} {p2 : xH} {N : Nat} {B : Nat → Nat → Prop} {X : Nat} {s : Int32} (hK : mkB p2 N B) (hs : s.toInt = (X : Int)) (hXN : ∀ i, tB X i → i < N) (K1 : sOne B X → Q (some (.int 1)) p2) (K0 : ¬ sOne B X → Q (some (.int 0)) p2) : ∀ (n : Nat) (a : Int32), (0 ≤ a.toInt) → (a.toInt ≤ N) → (∀ i, i < a.toInt.toNat → tB X i → ∀ j, tB X j → i ≠ j → ¬ B i j) → hP ro n d (12, 3, 1, 2, k241) 2 [(2, .int a), (0, .ref 66), (1, .int s)] [] p2 Q := by
  intro n
  induction n with
  | zero => intros; exact hp_0
  | succ n ih =>
    intro a ha1 ha2 hA
    obtain ⟨k1, k2, k3⟩ := hK
    have hK : mkB p2 N B := ⟨k1, k2, k3⟩
    refine hp_s1 (pc' := 3) (st' := [.int a]) rfl rfl rfl ?_
    refine hp_s (pc' := 4) (st' := [.ref 66, .int a]) rfl rfl rfl ?_
    refine hp_get (k := 34) (pc' := 7) (v := (rI p2 66 34)) rfl rfl rfl rfl rfl rfl ?_
    refine hp_ic (pc' := 10) (t := 37) (a := a.toInt) (b := (rI p2 66 34).toInt) rfl rfl rfl rfl rfl (fun (h1 : (rI p2 66 34).toInt ≤ a.toInt) => ?_) (fun (h2 : ¬ ((rI p2 66 34).toInt ≤ a.toInt)) => ?_)
    ·
      refine hp_s (pc' := 38) (st' := [.int 1]) rfl rfl rfl ?_
      refine hp_rb rfl rfl (fun _ => ?_)
      exact K1 (fun i j hi hj hne => hA i (by have := hXN i hi; omega) hi j hj hne)
    ·
      refine hp_s (pc' := 11) (st' := [.int s]) rfl rfl rfl ?_
      refine hp_s (pc' := 12) (st' := [.int a, .int s]) rfl rfl rfl ?_
      refine hp_cs (kd := 0) (as := [.int s, .int a]) (rest := []) (pc' := 15) rfl rfl rfl rfl rfl rfl rfl (fun d1 => ?_)
      refine s_isIn (xi := s.toInt) rfl (yi := a.toInt) rfl ?_ ?_
      ·
        intro h3
        have hin : tB X a.toInt.toNat := by
          show X.testBit a.toInt.toNat = true
          rw [← bI_tb (k := a.toInt.toNat) hs (by omega)]
          exact b_if ((bI_at _ (by omega) (by omega)).symm.trans h3)
        refine hp_id (st := [.int 1]) ?_
        refine hp_go (pc' := 18) rfl rfl rfl ?_
        refine hp_s (pc' := 19) (st' := [.ref 66]) rfl rfl rfl ?_
        refine hp_getr (k := 36) (w := .ref 90) (pc' := 22) rfl rfl rfl rfl rfl ?_
        refine hp_s (pc' := 23) (st' := [.int a, .ref 90]) rfl rfl rfl ?_
        refine hp_ld (t := 100) (v := (rI p2 90 a.toInt.toNat)) rfl (.inl rfl) rfl rfl rfl ?_
        intro (g1a : 0 ≤ a.toInt) (g1b : a.toInt < 10)
        refine hp_s (pc' := 25) (st' := [.int s, .int (rI p2 90 a.toInt.toNat)]) rfl rfl rfl ?_
        refine hp_z (pc' := 26) (e := (rI p2 90 a.toInt.toNat) &&& s) (st' := []) rfl rfl rfl ?_
        intro z1 hz1
        have hz0 : z1.toInt = 0 ↔ ∀ j, tB X j → a.toInt.toNat ≠ j → ¬ B a.toInt.toNat j := mk_ok hK hXN hs (by omega) hz1
        refine hp_if (pc' := 29) (t := 31) (a := z1.toInt) rfl rfl rfl rfl (fun (h4 : z1.toInt = 0) => ?_) (fun (h5 : ¬ (z1.toInt = 0)) => ?_)
        ·
          refine hp_inc (L := fun z_ => [(2, .int z_), (0, .ref 66), (1, .int s)]) (pc' := 34) rfl rfl rfl (fun _ => rfl) rfl ?_
          intro z2 hz2
          have ez2 := i_add hz2 (show a.toInt = a.toInt from rfl) (show (Int32.ofInt 1).toInt = 1 from by decide)
          refine hp_go (pc' := 2) rfl rfl rfl ?_
          refine ih z2 (by omega) (by omega) (fun i hi hx j hj hne => ?_)
          by_cases g : i = a.toInt.toNat
          · rw [g] at hne ⊢; exact hz0.mp (by omega) j hj hne
          · exact hA i (by omega) hx j hj hne
        ·
          refine hp_s (pc' := 30) (st' := [.int 0]) rfl rfl rfl ?_
          refine hp_rb rfl rfl (fun _ => ?_)
          refine K0 (fun g => ?_)
          exact absurd (hz0.mpr (fun j hj hne => g _ j hin hj hne)) (by omega)
      ·
        intro h6
        have hin : ¬ tB X a.toInt.toNat := by
          show ¬ X.testBit a.toInt.toNat = true
          rw [← bI_tb (k := a.toInt.toNat) hs (by omega)]
          exact fun gz => h6 ((bI_at (j := a.toInt.toNat) _ (by omega) (by omega)).trans (by rw [gz]; rfl))
        refine hp_id (st := [.int 0]) ?_
        refine hp_go (pc' := 31) rfl rfl rfl ?_
        refine hp_inc (L := fun z_ => [(2, .int z_), (0, .ref 66), (1, .int s)]) (pc' := 34) rfl rfl rfl (fun _ => rfl) rfl ?_
        intro z3 hz3
        have ez3 := i_add hz3 (show a.toInt = a.toInt from rfl) (show (Int32.ofInt 1).toInt = 1 from by decide)
        refine hp_go (pc' := 2) rfl rfl rfl ?_
        refine ih z3 (by omega) (by omega) (fun i hi hx j hj hne => ?_)
        by_cases g : i = a.toInt.toNat
        · rw [g] at hx; exact absurd hx hin
        · exact hA i (by omega) hx j hj hne
theorem s_isOne {ro : List (List Int32)} {n d : Nat} {p : xH} {Q : Option Value → xH → Prop} (N : Nat) (B : Nat → Nat → Prop) (X : Nat) {s : Int32} {si : Int} (hs : s.toInt = si) (pre0 : mkB p N B) (pre1 : si = (X : Int)) (pre2 : ∀ i, tB X i → i < N) (k0 : (sOne B X) → Q (some (.int (1))) p) (k1 : (¬ sOne B X) → Q (some (.int (0))) p) : hP ro n d (12, 3, 1, 2, k241) 0 (lv_args 0 [.ref 66, .int s]) [] p Q := by
  subst hs
  refine hp_id (ls := [(0, .ref 66), (1, .int s)]) ?_
  obtain ⟨k1_, k2_, k3_⟩ := pre0
  have pre0 : mkB p N B := ⟨k1_, k2_, k3_⟩
  refine hp_s (pc' := 1) (st' := [.int 0]) rfl rfl rfl ?_
  refine hp_s (pc' := 2) (ls' := [(2, .int 0), (0, .ref 66), (1, .int s)]) (st' := []) rfl rfl rfl ?_
  exact lp_241 (N := N) (B := B) (X := X) (s := s) pre0 pre1 pre2 k0 k1 n 0 (by decide) (by have h00 : (0 : Int32).toInt = 0 := (by decide); omega) (fun i hi => absurd hi (by rw [i_ofz]; exact Nat.not_lt_zero _))
