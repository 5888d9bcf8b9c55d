/-! contracts of methods, walked -/
theorem hGr_n {K : Int32 → Prop} {n : Nat} {g : Int32} (h : hGr K n g) {x : Int32} (hx : x.toInt = n + 1) (hn : n < 2000) {g2 : Int32} (h2 : ((bcn g).toInt < (bcn x).toInt ∧ K x ∧ g2 = x) ∨ (¬ ((bcn g).toInt < (bcn x).toInt ∧ K x) ∧ g2 = g)) : hGr K (n + 1) g2 := by
  have e : x = Int32.ofNat (n + 1) := i_k (k := n + 1) (by push_cast; omega)
  rw [e] at h2
  exact ⟨g, h, h2⟩
theorem lp_54 {ro : List (List Int32)} {d : Nat} {Q : Option Value → xH → Prop} {P : Nat → Nat → Prop} {S : Nat} {p : xH} (hS : (rI p 13 7).toInt.toNat = S) (hS7 : S ≤ 7) (h7 : 0 ≤ (rI p 13 7).toInt ∧ (rI p 13 7).toInt ≤ 7) (hR : ∀ n, n < (rI p 13 7).toInt.toNat → hLk P (rI p 13 7).toInt.toNat n (rI p 33 n)) (K : ∀ z : Int32, hGr (KD P S) (2 ^ S - 1) z → Q (some (.int z)) p) : ∀ (n : Nat) (x : Int32) (g : Int32), (1 ≤ x.toInt) → (x.toInt ≤ 2 ^ S) → (hGr (KD P S) (x.toInt.toNat - 1) g) → hP ro n d (4, 3, 1, 1, k54) 8 [(2, .int x), (1, .int g), (0, .ref 32)] [] p Q := by
  intro n
  induction n with
  | zero => intros; exact hp_0
  | succ n ih =>
    intro x g hx1 hx2 hG
    have hp7 := pw7 S (by omega)
    obtain ⟨h7a, h7b⟩ := h7
    refine hp_s1 (pc' := 9) (st' := [.int x]) rfl rfl rfl ?_
    refine hp_s (pc' := 10) (st' := [.ref 32, .int x]) rfl rfl rfl ?_
    refine hp_getr (k := 0) (w := .ref 13) (pc' := 13) rfl rfl rfl rfl rfl ?_
    refine hp_cv (r := 13) (o := 1) (kd := 1) (as := []) (rest := [.int x]) (pc' := 16) rfl rfl rfl rfl rfl rfl rfl rfl rfl (fun d1 => ?_)
    refine s_everybody (by first | assumption | omega) (by first | assumption | omega) ?_
    intro y1 h1 h2
    have hev : y1.toInt = 2 ^ S - 1 := by rw [h1, hS]
    refine hp_id (st := [.int y1, .int x]) ?_
    refine hp_ic (pc' := 19) (t := 46) (a := x.toInt) (b := y1.toInt) rfl rfl rfl rfl rfl (fun (h3 : y1.toInt < x.toInt) => ?_) (fun (h4 : ¬ (y1.toInt < x.toInt)) => ?_)
    ·
      refine hp_s (pc' := 47) (st' := [.int g]) rfl rfl rfl ?_
      refine hp_ri rfl rfl ?_
      refine K _ ?_
      have q : x.toInt.toNat - 1 = 2 ^ S - 1 := by
        have hc : ((2 ^ S : Nat) : Int) = 2 ^ S := by push_cast; rfl
        omega
      rw [← q]
      exact hG
    ·
      refine hp_s (pc' := 20) (st' := [.int x]) rfl rfl rfl ?_
      refine hp_cs (kd := 0) (as := [.int x]) (rest := []) (pc' := 23) rfl rfl rfl rfl rfl rfl rfl (fun d2 => ?_)
      refine s_bitCount (xi := x.toInt) rfl ?_
      intro y2 h5
      refine hp_id (st := [.int y2]) ?_
      refine hp_s (pc' := 24) (st' := [.int g, .int y2]) rfl rfl rfl ?_
      refine hp_cs (kd := 0) (as := [.int g]) (rest := [.int y2]) (pc' := 27) rfl rfl rfl rfl rfl rfl rfl (fun d3 => ?_)
      refine s_bitCount (xi := g.toInt) rfl ?_
      intro y3 h6
      refine hp_id (st := [.int y3, .int y2]) ?_
      refine hp_ic (pc' := 30) (t := 40) (a := y2.toInt) (b := y3.toInt) rfl rfl rfl rfl rfl (fun (h7 : y2.toInt ≤ y3.toInt) => ?_) (fun (h8 : ¬ (y2.toInt ≤ y3.toInt)) => ?_)
      ·
        refine hp_inc (L := fun z_ => [(2, .int z_), (1, .int g), (0, .ref 32)]) (pc' := 43) rfl rfl rfl (fun _ => rfl) rfl ?_
        intro z1 hz1
        have ez1 := i_add hz1 (show x.toInt = x.toInt from rfl) (show (Int32.ofInt 1).toInt = 1 from by decide)
        refine hp_go (pc' := 8) rfl rfl rfl ?_
        refine ih z1 g (by omega) (by omega) ?_
        have hxx : z1.toInt.toNat - 1 = x.toInt.toNat - 1 + 1 := by omega
        rw [hxx]
        refine hGr_n (x := x) hG (by omega) (by omega) ?_
        exact Or.inr ⟨fun g => absurd g.1 (by rw [← h6, ← h5]; omega), rfl⟩
      ·
        have hi : ∀ k, (rI p 13 7).toInt.toNat ≤ k → k < 32 → bI x k = false := by rw [hS]; exact bI_hi (z := x) hS7 (by omega) (by omega)
        refine hp_s (pc' := 31) (st' := [.ref 32]) rfl rfl rfl ?_
        refine hp_s (pc' := 32) (st' := [.int x, .ref 32]) rfl rfl rfl ?_
        refine hp_cv (r := 32) (o := 4) (kd := 1) (as := [.int x]) (rest := []) (pc' := 35) rfl rfl rfl rfl rfl rfl rfl rfl rfl (fun d4 => ?_)
        refine s_isKindX P (zi := x.toInt) rfl (by first | assumption | omega) (by first | assumption | omega) (by first | assumption | omega) (by first | assumption | omega) ?_ ?_
        ·
          intro h9
          rw [hS] at h9
          refine hp_id (st := [.int 1]) ?_
          refine hp_go (pc' := 38) rfl rfl rfl ?_
          refine hp_s (pc' := 39) (st' := [.int x]) rfl rfl rfl ?_
          refine hp_s (pc' := 40) (ls' := [(1, .int x), (2, .int x), (0, .ref 32)]) (st' := []) rfl rfl rfl ?_
          refine hp_inc (L := fun z_ => [(2, .int z_), (1, .int x), (0, .ref 32)]) (pc' := 43) rfl rfl rfl (fun _ => rfl) rfl ?_
          intro z2 hz2
          have ez2 := i_add hz2 (show x.toInt = x.toInt from rfl) (show (Int32.ofInt 1).toInt = 1 from by decide)
          refine hp_go (pc' := 8) rfl rfl rfl ?_
          refine ih z2 x (by omega) (by omega) ?_
          have hxx : z2.toInt.toNat - 1 = x.toInt.toNat - 1 + 1 := by omega
          rw [hxx]
          refine hGr_n (x := x) hG (by omega) (by omega) ?_
          exact Or.inl ⟨by rw [← h6, ← h5]; omega, h9, rfl⟩
        ·
          intro h10
          rw [hS] at h10
          refine hp_id (st := [.int 0]) ?_
          refine hp_go (pc' := 40) rfl rfl rfl ?_
          refine hp_inc (L := fun z_ => [(2, .int z_), (1, .int g), (0, .ref 32)]) (pc' := 43) rfl rfl rfl (fun _ => rfl) rfl ?_
          intro z3 hz3
          have ez3 := i_add hz3 (show x.toInt = x.toInt from rfl) (show (Int32.ofInt 1).toInt = 1 from by decide)
          refine hp_go (pc' := 8) rfl rfl rfl ?_
          refine ih z3 g (by omega) (by omega) ?_
          have hxx : z3.toInt.toNat - 1 = x.toInt.toNat - 1 + 1 := by omega
          rw [hxx]
          refine hGr_n (x := x) hG (by omega) (by omega) ?_
          exact Or.inr ⟨fun g => h10 g.2, rfl⟩
theorem s_greatest {ro : List (List Int32)} {n d : Nat} {p : xH} {Q : Option Value → xH → Prop} (lo : Option (List yN))  (pre0 : lXo p lo) (pre1 : ∀ j, -1 ≤ (rI p 2 j).toInt) (pre2 : 0 ≤ (rI p 13 7).toInt) (pre3 : (rI p 13 7).toInt ≤ 7) (pre4 : 0 ≤ (rI p 13 9).toInt) (pre5 : (rI p 13 9).toInt ≤ 63) (k0 : ∀ z : Int32, ∀ p2 : xH, (hNt T_lk p p2) → (hGr (KD (Xal p lo 0) (rI p 13 7).toInt.toNat) (2 ^ (rI p 13 7).toInt.toNat - 1) z) → Q (some (.int z)) p2) : hP ro n d (4, 3, 1, 1, k54) 0 (lv_args 0 [.ref 32]) [] p Q := by
  refine hp_id (ls := [(0, .ref 32)]) ?_
  refine hp_s (pc' := 1) (st' := [.ref 32]) rfl rfl rfl ?_
  refine hp_cv (r := 32) (o := 4) (kd := 1) (as := []) (rest := []) (pc' := 4) rfl rfl rfl rfl rfl rfl rfl rfl rfl (fun d1 => ?_)
  refine s_lookAround lo (by first | assumption | omega) (by first | assumption | omega) (by first | assumption | omega) (by first | assumption | omega) (by first | assumption | omega) (by first | assumption | omega) ?_
  intro p1 h1 h2
  skip
  refine hp_id (st := []) ?_
  refine hp_s (pc' := 5) (st' := [.int 0]) rfl rfl rfl ?_
  refine hp_s (pc' := 6) (ls' := [(1, .int 0), (0, .ref 32)]) (st' := []) rfl rfl rfl ?_
  refine hp_s (pc' := 7) (st' := [.int 1]) rfl rfl rfl ?_
  refine hp_s (pc' := 8) (ls' := [(2, .int 1), (1, .int 0), (0, .ref 32)]) (st' := []) rfl rfl rfl ?_
  exact lp_54 (P := Xal p lo 0) (S := (rI p 13 7).toInt.toNat) (by rw [h1.int (r := 13) (k := 7) rfl]) (by omega) (by rw [h1.int (r := 13) (k := 7) rfl]; exact ⟨pre2, pre3⟩) (by rw [h1.int (r := 13) (k := 7) rfl]; exact h2) (fun z hz => k0 z _ h1 hz) n 1 0 (by decide) (by have q := (pw7 (rI p 13 7).toInt.toNat (by omega)).2; have h11 : (1 : Int32).toInt = 1 := (by decide); omega) (by rw [show (1 : Int32).toInt.toNat - 1 = 0 from by decide]; rfl)
theorem X_kinds {ro : List (List Int32)} {n d : Nat} {p : xH} {Q : Option Value → xH → Prop} (lo : Option (List yN)) {k : Int32} {ki : Int} (hk : k.toInt = ki) (pre0 : lXo p lo) (pre1 : ∀ j, -1 ≤ (rI p 2 j).toInt) (pre2 : 0 ≤ (rI p 13 7).toInt) (pre3 : (rI p 13 7).toInt ≤ 7) (pre4 : 0 ≤ (rI p 13 9).toInt) (pre5 : (rI p 13 9).toInt ≤ 63) (k0 : (¬ (0 ≤ ki ∧ ki ≤ 1)) → Q (some (.int (-1))) p) (k1 : ∀ z : Int32, ∀ p2 : xH, ∀ y : Int32, (hNt T_lk p p2) → (ki = 0) → (hGr (KD (Xal p lo 0) (rI p 13 7).toInt.toNat) (2 ^ (rI p 13 7).toInt.toNat - 1) z) → (y = bcn z) → Q (some (.int y)) p2) (k2 : ∀ z : Int32, ∀ p2 : xH, (hNt T_lk p p2) → (ki = 1) → (hGr (KD (Xal p lo 0) (rI p 13 7).toInt.toNat) (2 ^ (rI p 13 7).toInt.toNat - 1) z) → Q (some (.int z)) p2) : hP ro n d (11, 3, 1, 1, k147) 0 (lv_args 0 [.ref 0, .int k]) [] p Q := by
  subst hk
  refine hp_id (ls := [(0, .ref 0), (1, .int k)]) ?_
  refine hp_s (pc' := 1) (st' := [.int k]) rfl rfl rfl ?_
  refine hp_if (pc' := 4) (t := 9) (a := k.toInt) rfl rfl rfl rfl (fun (h1 : k.toInt < 0) => ?_) (fun (h2 : ¬ (k.toInt < 0)) => ?_)
  ·
    refine hp_s (pc' := 10) (st' := [.int (-1)]) rfl rfl rfl ?_
    refine hp_ri rfl rfl ?_
    first | (exact k0 (by first | assumption | omega)) | (exact k1 _ _ _ (by first | assumption | omega) (by first | assumption | omega) (by first | assumption | omega) (by first | assumption | omega)) | (exact k2 _ _ (by first | assumption | omega) (by first | assumption | omega) (by first | assumption | omega)) | (exfalso; omega)
  ·
    refine hp_s (pc' := 5) (st' := [.int k]) rfl rfl rfl ?_
    refine hp_s (pc' := 6) (st' := [.int 1, .int k]) rfl rfl rfl ?_
    refine hp_ic (pc' := 9) (t := 11) (a := k.toInt) (b := 1) rfl rfl rfl rfl (by decide) (fun (h3 : k.toInt ≤ 1) => ?_) (fun (h4 : ¬ (k.toInt ≤ 1)) => ?_)
    ·
      refine hp_s (pc' := 12) (st' := [.ref 0]) rfl rfl rfl ?_
      refine hp_getr (k := 7) (w := .ref 32) (pc' := 15) rfl rfl rfl rfl rfl ?_
      refine hp_cv (r := 32) (o := 4) (kd := 1) (as := []) (rest := []) (pc' := 18) rfl rfl rfl rfl rfl rfl rfl rfl rfl (fun d1 => ?_)
      refine s_greatest lo (by first | assumption | omega) (by first | assumption | omega) (by first | assumption | omega) (by first | assumption | omega) (by first | assumption | omega) (by first | assumption | omega) ?_
      intro y1 p1 h5 h6
      refine hp_id (st := [.int y1]) ?_
      refine hp_s (pc' := 19) (ls' := [(2, .int y1), (0, .ref 0), (1, .int k)]) (st' := []) rfl rfl rfl ?_
      refine hp_s (pc' := 20) (st' := [.int k]) rfl rfl rfl ?_
      refine hp_if (pc' := 23) (t := 30) (a := k.toInt) rfl rfl rfl rfl (fun (h7 : k.toInt ≠ 0) => ?_) (fun (h8 : ¬ (k.toInt ≠ 0)) => ?_)
      ·
        refine hp_s (pc' := 31) (st' := [.int y1]) rfl rfl rfl ?_
        refine hp_ri rfl rfl ?_
        first | (exact k0 (by first | assumption | omega)) | (exact k1 _ _ _ (by first | assumption | omega) (by first | assumption | omega) (by first | assumption | omega) (by first | assumption | omega)) | (exact k2 _ _ (by first | assumption | omega) (by first | assumption | omega) (by first | assumption | omega)) | (exfalso; omega)
      ·
        refine hp_s (pc' := 24) (st' := [.int y1]) rfl rfl rfl ?_
        refine hp_cs (kd := 0) (as := [.int y1]) (rest := []) (pc' := 27) rfl rfl rfl rfl rfl rfl rfl (fun d2 => ?_)
        refine s_bitCount (xi := y1.toInt) rfl ?_
        intro y2 h9
        refine hp_id (st := [.int y2]) ?_
        refine hp_go (pc' := 31) rfl rfl rfl ?_
        refine hp_ri rfl rfl ?_
        first | (exact k0 (by first | assumption | omega)) | (exact k1 _ _ _ (by first | assumption | omega) (by first | assumption | omega) (by first | assumption | omega) (by first | assumption | omega)) | (exact k2 _ _ (by first | assumption | omega) (by first | assumption | omega) (by first | assumption | omega)) | (exfalso; omega)
    ·
      refine hp_s (pc' := 10) (st' := [.int (-1)]) rfl rfl rfl ?_
      refine hp_ri rfl rfl ?_
      first | (exact k0 (by first | assumption | omega)) | (exact k1 _ _ _ (by first | assumption | omega) (by first | assumption | omega) (by first | assumption | omega) (by first | assumption | omega)) | (exact k2 _ _ (by first | assumption | omega) (by first | assumption | omega) (by first | assumption | omega)) | (exfalso; omega)
theorem lp_233 {ro : List (List Int32)} {d : Nat} {Q : Option Value → xH → Prop} {P : Nat → Nat → Prop} {z : Int32} {p : xH} (g0 : 0 ≤ (rI p 66 6).toInt) (g1 : (rI p 66 6).toInt ≤ 7) (hR : ∀ n, n < (rI p 66 6).toInt.toNat → hLk P (rI p 66 6).toInt.toNat n (rI p 78 n)) (hi : ∀ k, (rI p 66 6).toInt.toNat ≤ k → k < 32 → bI z k = false) (K1 : KD P (rI p 66 6).toInt.toNat z → Q (some (.int 1)) p) (K0 : ¬ KD P (rI p 66 6).toInt.toNat z → Q (some (.int 0)) p) : ∀ (n : Nat) (x : Int32), (0 ≤ x.toInt) → (x.toInt ≤ (rI p 66 6).toInt) → (∀ j, j < x.toInt.toNat → bI z j = true → okX P (rI p 66 6).toInt.toNat j z) → hP ro n d (12, 3, 1, 2, k233) 2 [(2, .int x), (0, .ref 66), (1, .int z)] [] p Q := by
  intro n
  induction n with
  | zero => intros; exact hp_0
  | succ n ih =>
    intro x hx1 hx2 hok
    refine hp_s1 (pc' := 3) (st' := [.int x]) rfl rfl rfl ?_
    refine hp_s (pc' := 4) (st' := [.ref 66, .int x]) rfl rfl rfl ?_
    refine hp_get (k := 6) (pc' := 7) (v := (rI p 66 6)) rfl rfl rfl rfl rfl rfl ?_
    refine hp_ic (pc' := 10) (t := 45) (a := x.toInt) (b := (rI p 66 6).toInt) rfl rfl rfl rfl rfl (fun (h1 : (rI p 66 6).toInt ≤ x.toInt) => ?_) (fun (h2 : ¬ ((rI p 66 6).toInt ≤ x.toInt)) => ?_)
    ·
      refine hp_s (pc' := 46) (st' := [.int 1]) rfl rfl rfl ?_
      refine hp_rb rfl rfl (fun _ => ?_)
      exact K1 (KD_iff.mpr (fun j hj hb => hok j (by omega) hb))
    ·
      refine hp_s (pc' := 11) (st' := [.int z]) rfl rfl rfl ?_
      refine hp_s (pc' := 12) (st' := [.int x, .int z]) rfl rfl rfl ?_
      refine hp_cs (kd := 0) (as := [.int z, .int x]) (rest := []) (pc' := 15) rfl rfl rfl rfl rfl rfl rfl (fun d1 => ?_)
      refine s_isIn (xi := z.toInt) rfl (yi := x.toInt) rfl ?_ ?_
      ·
        intro h3
        have hin : bI z x.toInt.toNat = true := b_if ((bI_at z (by omega) (by omega)).symm.trans h3)
        refine hp_id (st := [.int 1]) ?_
        refine hp_go (pc' := 18) rfl rfl rfl ?_
        refine hp_s (pc' := 19) (st' := [.int z]) rfl rfl rfl ?_
        refine hp_s (pc' := 20) (st' := [.int 1, .int z]) rfl rfl rfl ?_
        refine hp_s (pc' := 21) (st' := [.int x, .int 1, .int z]) rfl rfl rfl ?_
        refine hp_z (pc' := 22) (e := 1 <<< (x &&& 31)) (st' := [.int z]) rfl rfl rfl ?_
        intro z1 hz1
        refine hp_s (pc' := 23) (st' := [.int (-1), .int z1, .int z]) rfl rfl rfl ?_
        refine hp_z (pc' := 24) (e := z1 ^^^ (-1)) (st' := [.int z]) rfl rfl rfl ?_
        intro z2 hz2
        refine hp_z (pc' := 25) (e := z &&& z2) (st' := []) rfl rfl rfl ?_
        intro z3 hz3
        refine hp_s (pc' := 26) (st' := [.ref 66, .int z3]) rfl rfl rfl ?_
        refine hp_getr (k := 21) (w := .ref 78) (pc' := 29) rfl rfl rfl rfl rfl ?_
        refine hp_s (pc' := 30) (st' := [.int x, .ref 78, .int z3]) rfl rfl rfl ?_
        refine hp_ld (t := 100) (v := (rI p 78 x.toInt.toNat)) rfl (.inl rfl) rfl rfl rfl ?_
        intro (g1a : 0 ≤ x.toInt) (g1b : x.toInt < 7)
        refine hp_s (pc' := 32) (st' := [.int (-1), .int (rI p 78 x.toInt.toNat), .int z3]) rfl rfl rfl ?_
        refine hp_z (pc' := 33) (e := (rI p 78 x.toInt.toNat) ^^^ (-1)) (st' := [.int z3]) rfl rfl rfl ?_
        intro z4 hz4
        refine hp_z (pc' := 34) (e := z3 &&& z4) (st' := []) rfl rfl rfl ?_
        intro z5 hz5
        refine hp_if (pc' := 37) (t := 39) (a := z5.toInt) rfl rfl rfl rfl (fun (h4 : z5.toInt = 0) => ?_) (fun (h5 : ¬ (z5.toInt = 0)) => ?_)
        ·
          refine hp_inc (L := fun z_ => [(2, .int z_), (0, .ref 66), (1, .int z)]) (pc' := 42) rfl rfl rfl (fun _ => rfl) rfl ?_
          intro z6 hz6
          have ez6 := i_add hz6 (show x.toInt = x.toInt from rfl) (show (Int32.ofInt 1).toInt = 1 from by decide)
          refine hp_go (pc' := 2) rfl rfl rfl ?_
          refine ih z6 (by omega) (by omega) (fun j hj hb => ?_)
          by_cases g : j < x.toInt.toNat
          · exact hok j g hb
          · have ej : j = x.toInt.toNat := by omega
            rw [ej] at hb ⊢
            exact (okX_m (X := x) (by omega) (by omega) (by omega) (hR _ (by omega)) hi).mp (by rw [← hz1, ← hz2, ← hz3, ← hz4, ← hz5]; exact i_z (by omega))
        ·
          refine hp_s (pc' := 38) (st' := [.int 0]) rfl rfl rfl ?_
          refine hp_rb rfl rfl (fun _ => ?_)
          refine K0 (fun gk => ?_)
          have q := (okX_m (X := x) (by omega) (by omega) (by omega) (hR _ (by omega)) hi).mpr (gk _ (by omega) hin)
          rw [← hz1, ← hz2, ← hz3, ← hz4, ← hz5] at q
          exact absurd q (i_nz (by omega))
      ·
        intro h6
        have hin : bI z x.toInt.toNat = false := b_if0 (fun gz => h6 ((bI_at z (by omega) (by omega)).trans gz))
        refine hp_id (st := [.int 0]) ?_
        refine hp_go (pc' := 39) rfl rfl rfl ?_
        refine hp_inc (L := fun z_ => [(2, .int z_), (0, .ref 66), (1, .int z)]) (pc' := 42) rfl rfl rfl (fun _ => rfl) rfl ?_
        intro z7 hz7
        have ez7 := i_add hz7 (show x.toInt = x.toInt from rfl) (show (Int32.ofInt 1).toInt = 1 from by decide)
        refine hp_go (pc' := 2) rfl rfl rfl ?_
        refine ih z7 (by omega) (by omega) (fun j hj hb => ?_)
        by_cases g : j < x.toInt.toNat
        · exact hok j g hb
        · have ej : j = x.toInt.toNat := by omega
          rw [ej] at hb ⊢
          rw [hin] at hb; cases hb
theorem s_isKindM {ro : List (List Int32)} {n d : Nat} {p : xH} {Q : Option Value → xH → Prop} (P : Nat → Nat → Prop) {z : Int32} {zi : Int} (hz : z.toInt = zi) (pre0 : 0 ≤ (rI p 66 6).toInt) (pre1 : (rI p 66 6).toInt ≤ 7) (pre2 : ∀ n, n < (rI p 66 6).toInt.toNat → hLk P (rI p 66 6).toInt.toNat n (rI p 78 n)) (pre3 : ∀ k, (rI p 66 6).toInt.toNat ≤ k → k < 32 → bI z k = false) (k0 : (KD P (rI p 66 6).toInt.toNat z) → Q (some (.int (1))) p) (k1 : (¬ KD P (rI p 66 6).toInt.toNat z) → Q (some (.int (0))) p) : hP ro n d (12, 3, 1, 2, k233) 0 (lv_args 0 [.ref 66, .int z]) [] p Q := by
  subst hz
  refine hp_id (ls := [(0, .ref 66), (1, .int z)]) ?_
  refine hp_s (pc' := 1) (st' := [.int 0]) rfl rfl rfl ?_
  refine hp_s (pc' := 2) (ls' := [(2, .int 0), (0, .ref 66), (1, .int z)]) (st' := []) rfl rfl rfl ?_
  exact lp_233 (P := P) (z := z) pre0 pre1 pre2 pre3 k0 k1 n 0 (by decide) (by have h00 : (0 : Int32).toInt = 0 := (by decide); omega) (fun j hj => absurd hj (by rw [i_ofz]; omega))
theorem lp_234 {ro : List (List Int32)} {d : Nat} {Q : Option Value → xH → Prop} {P : Nat → Nat → Prop} {S : Nat} {k : Int32} {p : xH} (hS : (rI p 66 6).toInt.toNat = S) (hS7 : S ≤ 7) (h7 : 0 ≤ (rI p 66 6).toInt ∧ (rI p 66 6).toInt ≤ 7) (hR : ∀ n, n < (rI p 66 6).toInt.toNat → hLk P (rI p 66 6).toInt.toNat n (rI p 78 n)) (hk : 0 ≤ k.toInt ∧ k.toInt ≤ 1) (K0 : ∀ z : Int32, k.toInt = 0 → hGr (KD P S) (2 ^ S - 1) z → ∀ y : Int32, y = bcn z → Q (some (.int y)) p) (K1 : ∀ z : Int32, k.toInt = 1 → hGr (KD P S) (2 ^ S - 1) z → Q (some (.int z)) p) : ∀ (n : Nat) (x : Int32) (g : Int32), (1 ≤ x.toInt) → (x.toInt ≤ 2 ^ S) → (hGr (KD P S) (x.toInt.toNat - 1) g) → hP ro n d (12, 4, 1, 1, k234) 20 [(3, .int x), (2, .int g), (0, .ref 66), (1, .int k)] [] p Q := by
  intro n
  induction n with
  | zero => intros; exact hp_0
  | succ n ih =>
    intro x g hx1 hx2 hG
    have hp7 := pw7 S (by omega)
    obtain ⟨h7a, h7b⟩ := h7
    obtain ⟨hka, hkb⟩ := hk
    have hg0 := hGr_b (by omega) hG
    refine hp_s1 (pc' := 21) (st' := [.int x]) rfl rfl rfl ?_
    refine hp_s (pc' := 22) (st' := [.int 1, .int x]) rfl rfl rfl ?_
    refine hp_s (pc' := 23) (st' := [.ref 66, .int 1, .int x]) rfl rfl rfl ?_
    refine hp_get (k := 6) (pc' := 26) (v := (rI p 66 6)) rfl rfl rfl rfl rfl rfl ?_
    refine hp_z (pc' := 27) (e := 1 <<< ((rI p 66 6) &&& 31)) (st' := [.int x]) rfl rfl rfl ?_
    intro z1 hz1
    have hsh : z1.toInt = 2 ^ S := by rw [hz1, ← hS]; exact (ev_v h7a h7b).2
    refine hp_ic (pc' := 30) (t := 61) (a := x.toInt) (b := z1.toInt) rfl rfl rfl rfl rfl (fun (h1 : z1.toInt ≤ x.toInt) => ?_) (fun (h2 : ¬ (z1.toInt ≤ x.toInt)) => ?_)
    ·
      refine hp_s (pc' := 62) (st' := [.int k]) rfl rfl rfl ?_
      refine hp_if (pc' := 65) (t := 72) (a := k.toInt) rfl rfl rfl rfl (fun (h3 : k.toInt ≠ 0) => ?_) (fun (h4 : ¬ (k.toInt ≠ 0)) => ?_)
      ·
        refine hp_s (pc' := 73) (st' := [.int g]) rfl rfl rfl ?_
        refine hp_ri rfl rfl ?_
        have q : x.toInt.toNat - 1 = 2 ^ S - 1 := by
          have hc : ((2 ^ S : Nat) : Int) = 2 ^ S := by push_cast; rfl
          omega
        rw [q] at hG
        exact K1 g (by omega) hG
      ·
        refine hp_s (pc' := 66) (st' := [.int g]) rfl rfl rfl ?_
        refine hp_cs (kd := 0) (as := [.int g]) (rest := []) (pc' := 69) rfl rfl rfl rfl rfl rfl rfl (fun d1 => ?_)
        refine s_bitsOf (xi := g.toInt) rfl (by first | assumption | omega) (by first | assumption | omega) ?_
        intro y1 h5
        refine hp_id (st := [.int y1]) ?_
        refine hp_go (pc' := 73) rfl rfl rfl ?_
        refine hp_ri rfl rfl ?_
        have q : x.toInt.toNat - 1 = 2 ^ S - 1 := by
          have hc : ((2 ^ S : Nat) : Int) = 2 ^ S := by push_cast; rfl
          omega
        rw [q] at hG
        exact K0 g (by omega) hG _ h5
    ·
      refine hp_s (pc' := 31) (st' := [.int x]) rfl rfl rfl ?_
      refine hp_cs (kd := 0) (as := [.int x]) (rest := []) (pc' := 34) rfl rfl rfl rfl rfl rfl rfl (fun d2 => ?_)
      refine s_bitsOf (xi := x.toInt) rfl (by first | assumption | omega) (by first | assumption | omega) ?_
      intro y2 h6
      refine hp_id (st := [.int y2]) ?_
      refine hp_s (pc' := 35) (st' := [.int g, .int y2]) rfl rfl rfl ?_
      refine hp_cs (kd := 0) (as := [.int g]) (rest := [.int y2]) (pc' := 38) rfl rfl rfl rfl rfl rfl rfl (fun d3 => ?_)
      refine s_bitsOf (xi := g.toInt) rfl (by first | assumption | omega) (by first | assumption | omega) ?_
      intro y3 h7
      refine hp_id (st := [.int y3, .int y2]) ?_
      refine hp_ic (pc' := 41) (t := 53) (a := y2.toInt) (b := y3.toInt) rfl rfl rfl rfl rfl (fun (h8 : y2.toInt ≤ y3.toInt) => ?_) (fun (h9 : ¬ (y2.toInt ≤ y3.toInt)) => ?_)
      ·
        refine hp_s (pc' := 54) (st' := [.int g]) rfl rfl rfl ?_
        refine hp_s (pc' := 55) (ls' := [(2, .int g), (3, .int x), (0, .ref 66), (1, .int k)]) (st' := []) rfl rfl rfl ?_
        refine hp_inc (L := fun z_ => [(3, .int z_), (2, .int g), (0, .ref 66), (1, .int k)]) (pc' := 58) rfl rfl rfl (fun _ => rfl) rfl ?_
        intro z2 hz2
        have ez2 := i_add hz2 (show x.toInt = x.toInt from rfl) (show (Int32.ofInt 1).toInt = 1 from by decide)
        refine hp_go (pc' := 20) rfl rfl rfl ?_
        refine ih z2 g (by omega) (by omega) ?_
        have hxx : z2.toInt.toNat - 1 = x.toInt.toNat - 1 + 1 := by omega
        rw [hxx]
        refine hGr_n (x := x) hG (by omega) (by omega) ?_
        exact Or.inr ⟨fun g => absurd g.1 (by rw [← h7, ← h6]; omega), rfl⟩
      ·
        have hi : ∀ k, (rI p 66 6).toInt.toNat ≤ k → k < 32 → bI x k = false := by rw [hS]; exact bI_hi (z := x) hS7 (by omega) (by omega)
        refine hp_s (pc' := 42) (st' := [.ref 66]) rfl rfl rfl ?_
        refine hp_s (pc' := 43) (st' := [.int x, .ref 66]) rfl rfl rfl ?_
        refine hp_cv (r := 66) (o := 12) (kd := 1) (as := [.int x]) (rest := []) (pc' := 46) rfl rfl rfl rfl rfl rfl rfl rfl rfl (fun d4 => ?_)
        refine s_isKindM P (zi := x.toInt) rfl (by first | assumption | omega) (by first | assumption | omega) (by first | assumption | omega) (by first | assumption | omega) ?_ ?_
        ·
          intro h10
          rw [hS] at h10
          refine hp_id (st := [.int 1]) ?_
          refine hp_go (pc' := 49) rfl rfl rfl ?_
          refine hp_s (pc' := 50) (st' := [.int x]) rfl rfl rfl ?_
          refine hp_go (pc' := 54) rfl rfl rfl ?_
          refine hp_s (pc' := 55) (ls' := [(2, .int x), (3, .int x), (0, .ref 66), (1, .int k)]) (st' := []) rfl rfl rfl ?_
          refine hp_inc (L := fun z_ => [(3, .int z_), (2, .int x), (0, .ref 66), (1, .int k)]) (pc' := 58) rfl rfl rfl (fun _ => rfl) rfl ?_
          intro z3 hz3
          have ez3 := i_add hz3 (show x.toInt = x.toInt from rfl) (show (Int32.ofInt 1).toInt = 1 from by decide)
          refine hp_go (pc' := 20) rfl rfl rfl ?_
          refine ih z3 x (by omega) (by omega) ?_
          have hxx : z3.toInt.toNat - 1 = x.toInt.toNat - 1 + 1 := by omega
          rw [hxx]
          refine hGr_n (x := x) hG (by omega) (by omega) ?_
          exact Or.inl ⟨by rw [← h7, ← h6]; omega, h10, rfl⟩
        ·
          intro h11
          rw [hS] at h11
          refine hp_id (st := [.int 0]) ?_
          refine hp_go (pc' := 53) rfl rfl rfl ?_
          refine hp_s (pc' := 54) (st' := [.int g]) rfl rfl rfl ?_
          refine hp_s (pc' := 55) (ls' := [(2, .int g), (3, .int x), (0, .ref 66), (1, .int k)]) (st' := []) rfl rfl rfl ?_
          refine hp_inc (L := fun z_ => [(3, .int z_), (2, .int g), (0, .ref 66), (1, .int k)]) (pc' := 58) rfl rfl rfl (fun _ => rfl) rfl ?_
          intro z4 hz4
          have ez4 := i_add hz4 (show x.toInt = x.toInt from rfl) (show (Int32.ofInt 1).toInt = 1 from by decide)
          refine hp_go (pc' := 20) rfl rfl rfl ?_
          refine ih z4 g (by omega) (by omega) ?_
          have hxx : z4.toInt.toNat - 1 = x.toInt.toNat - 1 + 1 := by omega
          rw [hxx]
          refine hGr_n (x := x) hG (by omega) (by omega) ?_
          exact Or.inr ⟨fun g => h11 g.2, rfl⟩
theorem M_kinds {ro : List (List Int32)} {n d : Nat} {p : xH} {Q : Option Value → xH → Prop} (lo : Option (List yN)) {k : Int32} {ki : Int} (hk : k.toInt = ki) (pre0 : lMo p lo) (pre1 : ∀ j, 0 ≤ (rI p 67 j).toInt ∧ (rI p 67 j).toInt < 64) (pre2 : ∀ j, -1 ≤ (rI p 71 j).toInt ∧ (rI p 71 j).toInt < 6) (pre3 : 0 ≤ (rI p 66 6).toInt) (pre4 : (rI p 66 6).toInt ≤ 7) (k0 : (¬ (0 ≤ ki ∧ ki ≤ 1)) → Q (some (.int (-1))) p) (k1 : ∀ z : Int32, ∀ p2 : xH, ∀ y : Int32, (hNt T_ml p p2) → (ki = 0) → (hGr (KD (Mal p lo) (rI p 66 6).toInt.toNat) (2 ^ (rI p 66 6).toInt.toNat - 1) z) → (y = bcn z) → Q (some (.int y)) p2) (k2 : ∀ z : Int32, ∀ p2 : xH, (hNt T_ml p p2) → (ki = 1) → (hGr (KD (Mal p lo) (rI p 66 6).toInt.toNat) (2 ^ (rI p 66 6).toInt.toNat - 1) z) → Q (some (.int z)) p2) : hP ro n d (12, 4, 1, 1, k234) 0 (lv_args 0 [.ref 66, .int k]) [] p Q := by
  subst hk
  refine hp_id (ls := [(0, .ref 66), (1, .int k)]) ?_
  refine hp_s (pc' := 1) (st' := [.int k]) rfl rfl rfl ?_
  refine hp_i2l (pc' := 2) rfl rfl ?_
  intro z1 hz1 ez1
  refine hp_s (pc' := 3) (st' := [.long 0, .long z1]) rfl rfl rfl ?_
  refine hp_s (pc' := 4) (st' := [.long 1, .long 0, .long z1]) rfl rfl rfl ?_
  refine hp_cs (kd := 0) (as := [.long z1, .long 0, .long 1]) (rest := []) (pc' := 7) rfl rfl rfl rfl rfl rfl rfl (fun d1 => ?_)
  refine s_within (vi := k.toInt) ez1 (ai := 0) (by decide) (bi := 1) (by decide) ?_ ?_
  ·
    intro h1 h2
    refine hp_id (st := [.int 1]) ?_
    refine hp_go (pc' := 12) rfl rfl rfl ?_
    refine hp_s (pc' := 13) (st' := [.ref 66]) rfl rfl rfl ?_
    refine hp_cv (r := 66) (o := 12) (kd := 1) (as := []) (rest := []) (pc' := 16) rfl rfl rfl rfl rfl rfl rfl rfl rfl (fun d2 => ?_)
    refine s_asksLikes lo (by first | assumption | omega) (by first | assumption | omega) (by first | assumption | omega) (by first | assumption | omega) (by first | assumption | omega) ?_
    intro p1 h3 h4
    skip
    refine hp_id (st := []) ?_
    refine hp_s (pc' := 17) (st' := [.int 0]) rfl rfl rfl ?_
    refine hp_s (pc' := 18) (ls' := [(2, .int 0), (0, .ref 66), (1, .int k)]) (st' := []) rfl rfl rfl ?_
    refine hp_s (pc' := 19) (st' := [.int 1]) rfl rfl rfl ?_
    refine hp_s (pc' := 20) (ls' := [(3, .int 1), (2, .int 0), (0, .ref 66), (1, .int k)]) (st' := []) rfl rfl rfl ?_
    exact lp_234 (P := Mal p lo) (S := (rI p 66 6).toInt.toNat) (k := k) (by rw [h3.int (r := 66) (k := 6) rfl]) (by omega) (by rw [h3.int (r := 66) (k := 6) rfl]; exact ⟨pre3, pre4⟩) (by rw [h3.int (r := 66) (k := 6) rfl]; exact h4) (by omega) (fun z e hz y hy => k1 z _ y h3 e hz hy) (fun z e hz => k2 z _ h3 e hz) n 1 0 (by decide) (by have q := (pw7 (rI p 66 6).toInt.toNat (by omega)).2; have h11 : (1 : Int32).toInt = 1 := (by decide); omega) (by rw [show (1 : Int32).toInt.toNat - 1 = 0 from by decide]; rfl)
  ·
    intro h5
    refine hp_id (st := [.int 0]) ?_
    refine hp_go (pc' := 10) rfl rfl rfl ?_
    refine hp_s (pc' := 11) (st' := [.int (-1)]) rfl rfl rfl ?_
    refine hp_ri rfl rfl ?_
    first | (exact k0 (by first | assumption | omega)) | (exact k1 _ _ _ (by first | assumption | omega) (by first | assumption | omega) (by first | assumption | omega) (by first | assumption | omega)) | (exact k2 _ _ (by first | assumption | omega) (by first | assumption | omega) (by first | assumption | omega)) | (exfalso; omega)
