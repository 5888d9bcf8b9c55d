/-! contracts of methods, walked -/
abbrev T_pn : List (Nat × Nat) := [(66, 15), (66, 16), (66, 17), (66, 18), (66, 19), (77, 9999), (78, 9999), (79, 9999), (80, 9999), (81, 9999), (66, 25)]
def hEm (p : xH) : Prop := (∀ j, 0 ≤ (rI p 72 j).toInt ∧ (rI p 72 j).toInt ≤ 4) ∧ (∀ j, 0 ≤ (rI p 73 j).toInt ∧ (rI p 73 j).toInt ≤ 4) ∧ (∀ j, (rI p 74 j).toInt ≤ 6) ∧ ∀ n, n < 7 → ∀ k, k < (rI p 72 n).toInt.toNat → 1 ≤ (rI p 74 (4 * n + k)).toInt
theorem hEm_e {p p2 : xH} (h : hEm p) (e72 : ∀ j, rI p2 72 j = rI p 72 j) (e73 : ∀ j, rI p2 73 j = rI p 73 j) (e74 : ∀ j, rI p2 74 j = rI p 74 j) : hEm p2 := by
  obtain ⟨a, b, c, d⟩ := h
  exact ⟨fun j => by rw [e72]; exact a j, fun j => by rw [e73]; exact b j, fun j => by rw [e74]; exact c j, fun n hn k hk => by rw [e72] at hk; rw [e74]; exact d n hn k hk⟩
theorem hEm_s {p : xH} (h : hEm p) (n : Nat) : ∀ k, k < dre p 72 n → 0 ≤ drs p 73 n k ∧ drs p 73 n k ≤ 4 := fun k _ => h.2.1 _
theorem hEm_t {p : xH} (h : hEm p) {n : Nat} (hn : n < 7) : ∀ k, k < dre p 72 n → 1 ≤ drs p 74 n k ∧ drs p 74 n k ≤ 6 := fun k hk => ⟨h.2.2.2 n hn k hk, h.2.2.1 _⟩
noncomputable abbrev plM (p : xH) (A : Nat → Nat → Prop) (S : Nat) (l : List Nat) : Nat → dS := dL A S (dre p 72) (drs p 73) (drs p 74) l
theorem plM_e {p p2 : xH} {A : Nat → Nat → Prop} {S : Nat} {l : List Nat} (e72 : ∀ j, rI p2 72 j = rI p 72 j) (e73 : ∀ j, rI p2 73 j = rI p 73 j) (e74 : ∀ j, rI p2 74 j = rI p 74 j) : plM p2 A S l = plM p A S l := by
  unfold plM
  rw [dre_e e72, drs_e e73, drs_e e74]
theorem lp_217 {ro : List (List Int32)} {d : Nat} {Q : Option Value → xH → Prop} {p0 : xH} {S : Nat} {A : Nat → Nat → Prop} (g0 : (rI p0 66 6).toInt = (S : Int)) (hS7 : S ≤ 7) (hR : ∀ n, n < S → hLk A S n (rI p0 78 n)) (hE : hEm p0) (K : ∀ p2 : xH, hNt T_po p0 p2 → (∀ j, j < S → hDm p2 j (plM p0 A S (dN S) j) (drt p0 72 74 j)) → Q none p2) : ∀ (n : Nat) (x : Int32) (p : xH), (0 ≤ x.toInt) → (x.toInt ≤ S) → (hNt T_po p0 p) → (∀ j, j < 32 → (bI (rI p 66 25) j = true ↔ j ∈ dN x.toInt.toNat)) → (∀ j, j < x.toInt.toNat → hDm p j (plM p0 A S (dN x.toInt.toNat) j) (drt p0 72 74 j)) → hP ro n d (12, 3, 1, 0, k217) 11 [(2, .int x), (0, .ref 66), (1, .int (-1))] [] p Q := by
  intro n
  induction n with
  | zero => intros; exact hp_0
  | succ n ih =>
    intro x p hx1 hx2 hN ha hD
    have f72 : ∀ j, rI p 72 j = rI p0 72 j := fun j => hN.int (r := 72) rfl
    have f73 : ∀ j, rI p 73 j = rI p0 73 j := fun j => hN.int (r := 73) rfl
    have f74 : ∀ j, rI p 74 j = rI p0 74 j := fun j => hN.int (r := 74) rfl
    have hEp : hEm p := hEm_e hE f72 f73 f74
    have e6 : (rI p 66 6).toInt = (S : Int) := by rw [hN.int (r := 66) (k := 6) rfl]; exact g0
    refine hp_s1 (pc' := 12) (st' := [.int x]) rfl rfl rfl ?_
    refine hp_s (pc' := 13) (st' := [.ref 66, .int x]) rfl rfl rfl ?_
    refine hp_get (k := 6) (pc' := 16) (v := (rI p 66 6)) rfl rfl rfl rfl rfl rfl ?_
    refine hp_ic (pc' := 19) (t := 35) (a := x.toInt) (b := (rI p 66 6).toInt) rfl rfl rfl rfl rfl (fun (h1 : (rI p 66 6).toInt ≤ x.toInt) => ?_) (fun (h2 : ¬ ((rI p 66 6).toInt ≤ x.toInt)) => ?_)
    ·
      refine hp_rv rfl rfl ?_
      rw [show x.toInt.toNat = S by omega] at hD
      exact K p hN hD
    ·
      refine hp_s (pc' := 20) (st' := [.int x]) rfl rfl rfl ?_
      refine hp_s (pc' := 21) (st' := [.int (-1), .int x]) rfl rfl rfl ?_
      refine hp_ic (pc' := 24) (t := 29) (a := x.toInt) (b := (-1)) rfl rfl rfl rfl (by decide) (fun (h3 : x.toInt = (-1)) => ?_) (fun (h4 : ¬ (x.toInt = (-1))) => ?_)
      ·
        refine hp_inc (L := fun z_ => [(2, .int z_), (0, .ref 66), (1, .int (-1))]) (pc' := 32) rfl rfl rfl (fun _ => rfl) rfl ?_
        intro z1 hz1
        have ez1 := i_add hz1 (show x.toInt = x.toInt from rfl) (show (Int32.ofInt 1).toInt = 1 from by decide)
        refine hp_go (pc' := 11) rfl rfl rfl ?_
        exfalso; omega
      ·
        have t1 : hLk A S x.toInt.toNat (rI p 78 x.toInt.toNat) := by rw [hN.int (r := 78) rfl]; exact hR _ (by omega)
        have t2 : ∀ j, j ∈ dN x.toInt.toNat → j < S → ∀ m : Nat, m < 30 → (rI p 79 (30 * j + m)).toInt = dw (plM p0 A S (dN x.toInt.toNat) j) m := fun j hj _ => (hD j (dN_mem.mp hj)).1
        have t3 := hEp.1 x.toInt.toNat
        have t4 := hEm_s hEp x.toInt.toNat
        have t5 := hEm_t hEp (n := x.toInt.toNat) (by omega)
        refine hp_s (pc' := 25) (st' := [.ref 66]) rfl rfl rfl ?_
        refine hp_s (pc' := 26) (st' := [.int x, .ref 66]) rfl rfl rfl ?_
        refine hp_cv (r := 66) (o := 12) (kd := 1) (as := [.int x]) (rest := []) (pc' := 29) rfl rfl rfl rfl rfl rfl rfl rfl rfl (fun d1 => ?_)
        refine s_plansOne S A (plM p0 A S (dN x.toInt.toNat)) (dN x.toInt.toNat) (xi := x.toInt) rfl (by first | assumption | omega) (by first | assumption | omega) (by first | assumption | omega) (by first | assumption | omega) (by first | assumption | omega) (by first | assumption | omega) (by first | assumption | omega) (by first | assumption | omega) (by first | assumption | omega) (by first | assumption | omega) ?_
        intro p1 h5 h6 h7 h8
        rw [dre_e f72, drs_e f73, drs_e f74, drt_e f72 f74] at h7
        refine hp_id (st := []) ?_
        refine hp_inc (L := fun z_ => [(2, .int z_), (0, .ref 66), (1, .int (-1))]) (pc' := 32) rfl rfl rfl (fun _ => rfl) rfl ?_
        intro z2 hz2
        have ez2 := i_add hz2 (show x.toInt = x.toInt from rfl) (show (Int32.ofInt 1).toInt = 1 from by decide)
        refine hp_go (pc' := 11) rfl rfl rfl ?_
        refine ih z2 p1 (by omega) (by omega) (hN.trans h5) (fun j hj => ?_) (fun j hj => ?_)
        · rw [show z2.toInt.toNat = x.toInt.toNat + 1 by omega, h8, bI_or, Bool.or_eq_true, ha j hj, bI_p (j := x.toInt.toNat) (by omega) (by omega) hj, decide_eq_true_iff, dN_mem, dN_mem]; omega
        · rw [show z2.toInt.toNat = x.toInt.toNat + 1 by omega] at hj ⊢
          by_cases g : j = x.toInt.toNat
          · rw [g]; show hDm _ _ (dL _ _ _ _ _ (x.toInt.toNat :: dN x.toInt.toNat) x.toInt.toNat) _; rw [dL_h]; exact h7
          · show hDm _ _ (dL _ _ _ _ _ (x.toInt.toNat :: dN x.toInt.toNat) j) _; rw [dL_t g]; exact hDm_ot h6 g (hD j (by omega))
theorem s_plansNow {ro : List (List Int32)} {n d : Nat} {p : xH} {Q : Option Value → xH → Prop} (lo : Option (List yN))  (pre0 : lMo p lo) (pre1 : ∀ j, 0 ≤ (rI p 67 j).toInt ∧ (rI p 67 j).toInt < 64) (pre2 : ∀ j, -1 ≤ (rI p 71 j).toInt ∧ (rI p 71 j).toInt < 6) (pre3 : 0 ≤ (rI p 66 6).toInt) (pre4 : (rI p 66 6).toInt ≤ 7) (pre5 : hEm p) (k0 : ∀ p2 : xH, (hNt T_pn p p2) → (∀ j, j < (rI p 66 6).toInt.toNat → hDm p2 j (plM p (Mal p lo) (rI p 66 6).toInt.toNat (dN (rI p 66 6).toInt.toNat) j) (drt p 72 74 j)) → Q none p2) : hP ro n d (12, 3, 1, 0, k217) 0 (lv_args 0 [.ref 66, .int (-1)]) [] p Q := by
  refine hp_id (ls := [(0, .ref 66), (1, .int (-1))]) ?_
  refine hp_s (pc' := 1) (st' := [.ref 66]) rfl rfl rfl ?_
  refine hp_cv (r := 66) (o := 12) (kd := 1) (as := []) (rest := []) (pc' := 4) rfl rfl rfl rfl rfl rfl rfl rfl rfl (fun d1 => ?_)
  refine s_asksLikes lo (by first | assumption | omega) (by first | assumption | omega) (by first | assumption | omega) (by first | assumption | omega) (by first | assumption | omega) ?_
  intro p1 h1 h2
  skip
  refine hp_id (st := []) ?_
  refine hp_s (pc' := 5) (st' := [.ref 66]) rfl rfl rfl ?_
  refine hp_s (pc' := 6) (st' := [.int 0, .ref 66]) rfl rfl rfl ?_
  refine hp_put (k := 25) (pc' := 9) rfl rfl rfl rfl rfl ?_
  intro p2 wp2 ep2
  refine hp_s (pc' := 10) (st' := [.int 0]) rfl rfl rfl ?_
  refine hp_s (pc' := 11) (ls' := [(2, .int 0), (0, .ref 66), (1, .int (-1))]) (st' := []) rfl rfl rfl ?_
  have n9 : hNt T_pn p p2 := (by rw [ep2]; exact (hNt.w (hNt.trans (hNt.refl _ _) (h1.up (by decide))) rfl))
  have u72 : ∀ j, rI p2 72 j = rI p 72 j := fun j => n9.int (r := 72) rfl
  have u73 : ∀ j, rI p2 73 j = rI p 73 j := fun j => n9.int (r := 73) rfl
  have u74 : ∀ j, rI p2 74 j = rI p 74 j := fun j => n9.int (r := 74) rfl
  exact lp_217 (p0 := p2) (S := (rI p 66 6).toInt.toNat) (A := Mal p lo) (by rw [n9.int (r := 66) (k := 6) rfl]; omega) (by omega) (fun j hj => by rw [ep2, rI_o (by decide)]; exact h2 j hj) (hEm_e pre5 u72 u73 u74) (fun p2 h1 h2 => k0 p2 (hNt.trans n9 (h1.up (by decide))) (fun j hj => by have q := h2 j hj; rw [plM_e u72 u73 u74, drt_e u72 u74] at q; exact q)) n 0 p2 (by decide) (by have h00 : (0 : Int32).toInt = 0 := (by decide); omega) (hNt.refl _ _) (fun j _ => by rw [ep2, rI_eq wp2 (by decide), bI_0, i_ofz, dN_mem]; exact ⟨fun g => (by cases g), fun g => absurd g (Nat.not_lt_zero _)⟩) (fun j hj => absurd hj (by rw [i_ofz]; exact Nat.not_lt_zero _))
theorem s_costOf {ro : List (List Int32)} {n d : Nat} {p : xH} {Q : Option Value → xH → Prop} (r : dS) (T : Int32) {x : Int32} {xi : Int} (hx : x.toInt = xi) (pre0 : hDm p xi.toNat r T) (k0 : ∀ z : Int32, (z = dCt T r) → Q (some (.int z)) p) : hP ro n d (12, 2, 1, 1, k218) 0 (lv_args 0 [.ref 66, .int x]) [] p Q := by
  subst hx
  refine hp_id (ls := [(0, .ref 66), (1, .int x)]) ?_
  obtain ⟨-, d4, d5⟩ := pre0
  refine hp_s (pc' := 1) (st' := [.ref 66]) rfl rfl rfl ?_
  refine hp_getr (k := 23) (w := .ref 80) (pc' := 4) rfl rfl rfl rfl rfl ?_
  refine hp_s (pc' := 5) (st' := [.int x, .ref 80]) rfl rfl rfl ?_
  refine hp_ld (t := 101) (v := (rI p 80 x.toInt.toNat)) rfl (.inr rfl) rfl rfl rfl ?_
  intro (g1a : 0 ≤ x.toInt) (g1b : x.toInt < 7)
  refine hp_if (pc' := 9) (t := 14) (a := (rI p 80 x.toInt.toNat).toInt) rfl rfl rfl rfl (fun (h1 : (rI p 80 x.toInt.toNat).toInt = 0) => ?_) (fun (h2 : ¬ ((rI p 80 x.toInt.toNat).toInt = 0)) => ?_)
  ·
    refine hp_s (pc' := 15) (st' := [.ref 66]) rfl rfl rfl ?_
    refine hp_getr (k := 24) (w := .ref 81) (pc' := 18) rfl rfl rfl rfl rfl ?_
    refine hp_s (pc' := 19) (st' := [.int x, .ref 81]) rfl rfl rfl ?_
    refine hp_ld (t := 100) (v := (rI p 81 x.toInt.toNat)) rfl (.inl rfl) rfl rfl rfl ?_
    intro (g2a : 0 ≤ x.toInt) (g2b : x.toInt < 7)
    refine hp_ri rfl rfl ?_
    refine k0 _ ?_
    cases r with
    | none => have d4 : (rI p 80 x.toInt.toNat).toInt = 1 := d4; first | rfl | (exfalso; omega)
    | some q => have d4 : (rI p 80 x.toInt.toNat).toInt = 0 := d4; first | (exfalso; omega) | (rw [d5]; rfl)
  ·
    refine hp_s (pc' := 11) (st' := [.int 30]) rfl rfl rfl ?_
    refine hp_go (pc' := 20) rfl rfl rfl ?_
    refine hp_ri rfl rfl ?_
    refine k0 _ ?_
    cases r with
    | none => have d4 : (rI p 80 x.toInt.toNat).toInt = 1 := d4; first | rfl | (exfalso; omega)
    | some q => have d4 : (rI p 80 x.toInt.toNat).toInt = 0 := d4; first | (exfalso; omega) | (rw [d5]; rfl)
theorem lp_219 {ro : List (List Int32)} {d : Nat} {Q : Option Value → xH → Prop} {S : Nat} {W : Nat → dS} {T : Nat → Int32} {p : xH} (g0 : (rI p 66 6).toInt = (S : Int)) (hS7 : S ≤ 7) (hD : ∀ j, j < S → hDm p j (W j) (T j)) (K : ∀ z : Int32, z = hSum (fun j => dCt (T j) (W j)) S → Q (some (.int z)) p) : ∀ (n : Nat) (k : Int32) (b : Int32), (0 ≤ k.toInt) → (k.toInt ≤ S) → (b = hSum (fun j => dCt (T j) (W j)) k.toInt.toNat) → hP ro n d (12, 3, 1, 1, k219) 4 [(2, .int k), (1, .int b), (0, .ref 66)] [] p Q := by
  intro n
  induction n with
  | zero => intros; exact hp_0
  | succ n ih =>
    intro k b hk1 hk2 hb
    refine hp_s1 (pc' := 5) (st' := [.int k]) rfl rfl rfl ?_
    refine hp_s (pc' := 6) (st' := [.ref 66, .int k]) rfl rfl rfl ?_
    refine hp_get (k := 6) (pc' := 9) (v := (rI p 66 6)) rfl rfl rfl rfl rfl rfl ?_
    refine hp_ic (pc' := 12) (t := 26) (a := k.toInt) (b := (rI p 66 6).toInt) rfl rfl rfl rfl rfl (fun (h1 : (rI p 66 6).toInt ≤ k.toInt) => ?_) (fun (h2 : ¬ ((rI p 66 6).toInt ≤ k.toInt)) => ?_)
    ·
      refine hp_s (pc' := 27) (st' := [.int b]) rfl rfl rfl ?_
      refine hp_ri rfl rfl ?_
      exact K _ (by rw [show S = k.toInt.toNat by omega]; exact hb)
    ·
      refine hp_s (pc' := 13) (st' := [.int b]) rfl rfl rfl ?_
      refine hp_s (pc' := 14) (st' := [.ref 66, .int b]) rfl rfl rfl ?_
      have d0 := hD k.toInt.toNat (by omega)
      refine hp_s (pc' := 15) (st' := [.int k, .ref 66, .int b]) rfl rfl rfl ?_
      refine hp_cv (r := 66) (o := 12) (kd := 1) (as := [.int k]) (rest := [.int b]) (pc' := 18) rfl rfl rfl rfl rfl rfl rfl rfl rfl (fun d1 => ?_)
      refine s_costOf (W k.toInt.toNat) (T k.toInt.toNat) (xi := k.toInt) rfl (by first | assumption | omega) ?_
      intro y1 h3
      refine hp_id (st := [.int y1, .int b]) ?_
      refine hp_z (pc' := 19) (e := b + y1) (st' := []) rfl rfl rfl ?_
      intro z1 hz1
      have ez1 := i_add hz1 (show b.toInt = b.toInt from rfl) (show y1.toInt = y1.toInt from rfl)
      refine hp_s (pc' := 20) (ls' := [(1, .int z1), (2, .int k), (0, .ref 66)]) (st' := []) rfl rfl rfl ?_
      refine hp_inc (L := fun z_ => [(2, .int z_), (1, .int z1), (0, .ref 66)]) (pc' := 23) rfl rfl rfl (fun _ => rfl) rfl ?_
      intro z2 hz2
      have ez2 := i_add hz2 (show k.toInt = k.toInt from rfl) (show (Int32.ofInt 1).toInt = 1 from by decide)
      refine hp_go (pc' := 4) rfl rfl rfl ?_
      refine ih z2 z1 (by omega) (by omega) ?_
      rw [show z2.toInt.toNat = k.toInt.toNat + 1 by omega, hz1, hb, h3]
      rfl
theorem s_allWaited {ro : List (List Int32)} {n d : Nat} {p : xH} {Q : Option Value → xH → Prop} (S : Nat) (W : Nat → dS) (T : Nat → Int32)  (pre0 : (rI p 66 6).toInt = (S : Int)) (pre1 : S ≤ 7) (pre2 : ∀ j, j < S → hDm p j (W j) (T j)) (k0 : ∀ z : Int32, (z = hSum (fun j => dCt (T j) (W j)) S) → Q (some (.int z)) p) : hP ro n d (12, 3, 1, 1, k219) 0 (lv_args 0 [.ref 66]) [] p Q := by
  refine hp_id (ls := [(0, .ref 66)]) ?_
  refine hp_s (pc' := 1) (st' := [.int 0]) rfl rfl rfl ?_
  refine hp_s (pc' := 2) (ls' := [(1, .int 0), (0, .ref 66)]) (st' := []) rfl rfl rfl ?_
  refine hp_s (pc' := 3) (st' := [.int 0]) rfl rfl rfl ?_
  refine hp_s (pc' := 4) (ls' := [(2, .int 0), (1, .int 0), (0, .ref 66)]) (st' := []) rfl rfl rfl ?_
  exact lp_219 (W := W) (T := T) pre0 pre1 pre2 k0 n 0 0 (by decide) (by have h00 : (0 : Int32).toInt = 0 := (by decide); omega) (by rw [i_ofz]; rfl)
theorem X_where {ro : List (List Int32)} {n d : Nat} {p : xH} {Q : Option Value → xH → Prop} (lo : Option (List yN)) {x : Int32} {xi : Int} {m : Int32} {mi : Int} (hx : x.toInt = xi) (hm : m.toInt = mi) (pre0 : lXo p lo) (pre1 : ∀ j, -1 ≤ (rI p 2 j).toInt) (pre2 : 0 ≤ (rI p 13 7).toInt) (pre3 : (rI p 13 7).toInt ≤ 7) (pre4 : 0 ≤ (rI p 13 9).toInt) (pre5 : (rI p 13 9).toInt ≤ 63) (pre6 : hEr p) (k0 : (¬ (0 ≤ xi ∧ xi < (rI p 13 7).toInt ∧ 0 ≤ mi ∧ mi < 30)) → Q (some (.int (-2000000000))) p) (k1 : ∀ z : Int32, ∀ p2 : xH, (hNt T_ly p p2) → (0 ≤ xi) → (xi < (rI p 13 7).toInt) → (0 ≤ mi) → (mi < 30) → (z.toInt = dw (plX p (Xal p lo 0) (rI p 13 7).toInt.toNat (dN (rI p 13 7).toInt.toNat) xi.toNat) mi) → Q (some (.int z)) p2) : hP ro n d (11, 3, 1, 1, k140) 0 (lv_args 0 [.ref 0, .int x, .int m]) [] p Q := by
  subst hx
  subst hm
  refine hp_id (ls := [(0, .ref 0), (1, .int x), (2, .int m)]) ?_
  refine hp_s (pc' := 1) (st' := [.ref 0]) rfl rfl rfl ?_
  refine hp_getr (k := 4) (w := .ref 13) (pc' := 4) rfl rfl rfl rfl rfl ?_
  refine hp_s (pc' := 5) (st' := [.int x, .ref 13]) rfl rfl rfl ?_
  refine hp_cv (r := 13) (o := 1) (kd := 1) (as := [.int x]) (rest := []) (pc' := 8) rfl rfl rfl rfl rfl rfl rfl rfl rfl (fun d1 => ?_)
  refine s_has (xi := x.toInt) rfl ?_ ?_
  ·
    intro h1 h2
    refine hp_id (st := [.int 1]) ?_
    refine hp_go (pc' := 11) rfl rfl rfl ?_
    refine hp_s (pc' := 12) (st' := [.int m]) rfl rfl rfl ?_
    refine hp_cs (kd := 0) (as := [.int m]) (rest := []) (pc' := 15) rfl rfl rfl rfl rfl rfl rfl (fun d2 => ?_)
    refine s_isMinute (xi := m.toInt) rfl ?_ ?_
    ·
      intro h3 h4
      refine hp_id (st := [.int 1]) ?_
      refine hp_go (pc' := 21) rfl rfl rfl ?_
      refine hp_s (pc' := 22) (st' := [.ref 0]) rfl rfl rfl ?_
      refine hp_getr (k := 8) (w := .ref 34) (pc' := 25) rfl rfl rfl rfl rfl ?_
      refine hp_cv (r := 34) (o := 2) (kd := 1) (as := []) (rest := []) (pc' := 28) rfl rfl rfl rfl rfl rfl rfl rfl rfl (fun d3 => ?_)
      refine s_layByNumbers lo (by first | assumption | omega) (by first | assumption | omega) (by first | assumption | omega) (by first | assumption | omega) (by first | assumption | omega) (by first | assumption | omega) (by first | assumption | omega) ?_
      intro p1 h5 h6
      refine hp_id (st := []) ?_
      refine hp_s (pc' := 29) (st' := [.ref 0]) rfl rfl rfl ?_
      refine hp_getr (k := 8) (w := .ref 34) (pc' := 32) rfl rfl rfl rfl rfl ?_
      refine hp_s (pc' := 33) (st' := [.int x, .ref 34]) rfl rfl rfl ?_
      refine hp_s (pc' := 34) (st' := [.int m, .int x, .ref 34]) rfl rfl rfl ?_
      have d0 := (h6 x.toInt.toNat (by omega)).1
      have d1 := plX_r (A := Xal p lo 0) (S := (rI p 13 7).toInt.toNat) pre6 (l := dN (rI p 13 7).toInt.toNat) (fun j hj => by have q := dN_mem.mp hj; omega) x.toInt.toNat
      refine hp_cv (r := 34) (o := 2) (kd := 1) (as := [.int x, .int m]) (rest := []) (pc' := 37) rfl rfl rfl rfl rfl rfl rfl rfl rfl (fun d4 => ?_)
      refine s_streetOf (dw (plX p (Xal p lo 0) (rI p 13 7).toInt.toNat (dN (rI p 13 7).toInt.toNat) x.toInt.toNat)) (xi := x.toInt) rfl (mi := m.toInt) rfl (by first | assumption | omega) (by first | assumption | omega) (by first | assumption | omega) (by first | assumption | omega) (by first | assumption | omega) (by first | assumption | omega) ?_
      intro y1 h7
      refine hp_id (st := [.int y1]) ?_
      refine hp_ri rfl rfl ?_
      first | (exact k0 (by first | assumption | omega)) | (exact k1 _ _ (by first | assumption | omega) (by first | assumption | omega) (by first | assumption | omega) (by first | assumption | omega) (by first | assumption | omega) (by first | assumption | omega)) | (exfalso; omega)
    ·
      intro h8
      refine hp_id (st := [.int 0]) ?_
      refine hp_go (pc' := 18) rfl rfl rfl ?_
      refine hp_s (pc' := 20) (st' := [.int (-2000000000)]) rfl rfl rfl ?_
      refine hp_ri rfl rfl ?_
      first | (exact k0 (by first | assumption | omega)) | (exact k1 _ _ (by first | assumption | omega) (by first | assumption | omega) (by first | assumption | omega) (by first | assumption | omega) (by first | assumption | omega) (by first | assumption | omega)) | (exfalso; omega)
  ·
    intro h9
    refine hp_id (st := [.int 0]) ?_
    refine hp_go (pc' := 18) rfl rfl rfl ?_
    refine hp_s (pc' := 20) (st' := [.int (-2000000000)]) rfl rfl rfl ?_
    refine hp_ri rfl rfl ?_
    first | (exact k0 (by first | assumption | omega)) | (exact k1 _ _ (by first | assumption | omega) (by first | assumption | omega) (by first | assumption | omega) (by first | assumption | omega) (by first | assumption | omega) (by first | assumption | omega)) | (exfalso; omega)
theorem M_where {ro : List (List Int32)} {n d : Nat} {p : xH} {Q : Option Value → xH → Prop} (lo : Option (List yN)) {x : Int32} {xi : Int} {m : Int32} {mi : Int} (hx : x.toInt = xi) (hm : m.toInt = mi) (pre0 : lMo p lo) (pre1 : ∀ j, 0 ≤ (rI p 67 j).toInt ∧ (rI p 67 j).toInt < 64) (pre2 : ∀ j, -1 ≤ (rI p 71 j).toInt ∧ (rI p 71 j).toInt < 6) (pre3 : 0 ≤ (rI p 66 6).toInt) (pre4 : (rI p 66 6).toInt ≤ 7) (pre5 : hEm p) (k0 : (¬ (0 ≤ xi ∧ xi < (rI p 66 6).toInt ∧ 0 ≤ mi ∧ mi < 30)) → Q (some (.int (-2000000000))) p) (k1 : ∀ z : Int32, ∀ p2 : xH, (hNt T_pn p p2) → (0 ≤ xi) → (xi < (rI p 66 6).toInt) → (0 ≤ mi) → (mi < 30) → (z.toInt = dw (plM p (Mal p lo) (rI p 66 6).toInt.toNat (dN (rI p 66 6).toInt.toNat) xi.toNat) mi) → Q (some (.int z)) p2) : hP ro n d (12, 3, 1, 1, k221) 0 (lv_args 0 [.ref 66, .int x, .int m]) [] p Q := by
  subst hx
  subst hm
  refine hp_id (ls := [(0, .ref 66), (1, .int x), (2, .int m)]) ?_
  refine hp_s (pc' := 1) (st' := [.ref 66]) rfl rfl rfl ?_
  refine hp_s (pc' := 2) (st' := [.int x, .ref 66]) rfl rfl rfl ?_
  refine hp_cv (r := 66) (o := 12) (kd := 1) (as := [.int x]) (rest := []) (pc' := 5) rfl rfl rfl rfl rfl rfl rfl rfl rfl (fun d1 => ?_)
  refine s_isPerson (xi := x.toInt) rfl (by first | assumption | omega) ?_ ?_
  ·
    intro h1 h2
    refine hp_id (st := [.int 1]) ?_
    refine hp_go (pc' := 8) rfl rfl rfl ?_
    refine hp_s (pc' := 9) (st' := [.int m]) rfl rfl rfl ?_
    refine hp_i2l (pc' := 10) rfl rfl ?_
    intro z1 hz1 ez1
    refine hp_s (pc' := 11) (st' := [.long 0, .long z1]) rfl rfl rfl ?_
    refine hp_s (pc' := 14) (st' := [.long 29, .long 0, .long z1]) rfl rfl rfl ?_
    refine hp_cs (kd := 0) (as := [.long z1, .long 0, .long 29]) (rest := []) (pc' := 17) rfl rfl rfl rfl rfl rfl rfl (fun d2 => ?_)
    refine s_within (vi := m.toInt) ez1 (ai := 0) (by decide) (bi := 29) (by decide) ?_ ?_
    ·
      intro h3 h4
      refine hp_id (st := [.int 1]) ?_
      refine hp_go (pc' := 23) rfl rfl rfl ?_
      refine hp_s (pc' := 24) (st' := [.ref 66]) rfl rfl rfl ?_
      refine hp_s (pc' := 25) (st' := [.int (-1), .ref 66]) rfl rfl rfl ?_
      refine hp_cv (r := 66) (o := 12) (kd := 1) (as := [.int (-1)]) (rest := []) (pc' := 28) rfl rfl rfl rfl rfl rfl rfl rfl rfl (fun d3 => ?_)
      refine s_plansNow lo (by first | assumption | omega) (by first | assumption | omega) (by first | assumption | omega) (by first | assumption | omega) (by first | assumption | omega) (by first | assumption | omega) ?_
      intro p1 h5 h6
      refine hp_id (st := []) ?_
      refine hp_s (pc' := 29) (st' := [.ref 66]) rfl rfl rfl ?_
      refine hp_getr (k := 22) (w := .ref 79) (pc' := 32) rfl rfl rfl rfl rfl ?_
      refine hp_s (pc' := 34) (st' := [.int 30, .ref 79]) rfl rfl rfl ?_
      refine hp_s (pc' := 35) (st' := [.int x, .int 30, .ref 79]) rfl rfl rfl ?_
      refine hp_z (pc' := 36) (e := 30 * x) (st' := [.ref 79]) rfl rfl rfl ?_
      intro z2 hz2
      have ez2 := i_mul hz2 (show (30 : Int32).toInt = 30 from by decide) (show x.toInt = x.toInt from rfl)
      refine hp_s (pc' := 37) (st' := [.int m, .int z2, .ref 79]) rfl rfl rfl ?_
      refine hp_z (pc' := 38) (e := z2 + m) (st' := [.ref 79]) rfl rfl rfl ?_
      intro z3 hz3
      have ez3 := i_add hz3 (show z2.toInt = z2.toInt from rfl) (show m.toInt = m.toInt from rfl)
      refine hp_ld (t := 100) (v := (rI p1 79 z3.toInt.toNat)) rfl (.inl rfl) rfl rfl rfl ?_
      intro (g1a : 0 ≤ z3.toInt) (g1b : z3.toInt < 210)
      refine hp_ri rfl rfl ?_
      have d0 := (h6 x.toInt.toNat (by omega)).1 m.toInt.toNat (by omega)
      rw [show ((m.toInt.toNat : Nat) : Int) = m.toInt by omega] at d0
      refine k1 _ _ h5 (by omega) (by omega) (by omega) (by omega) ?_
      rw [← d0]
      congr 2; omega
    ·
      intro h7
      refine hp_id (st := [.int 0]) ?_
      refine hp_go (pc' := 20) rfl rfl rfl ?_
      refine hp_s (pc' := 22) (st' := [.int (-2000000000)]) rfl rfl rfl ?_
      refine hp_ri rfl rfl ?_
      exact k0 (by omega)
  ·
    intro h8
    refine hp_id (st := [.int 0]) ?_
    refine hp_go (pc' := 20) rfl rfl rfl ?_
    refine hp_s (pc' := 22) (st' := [.int (-2000000000)]) rfl rfl rfl ?_
    refine hp_ri rfl rfl ?_
    exact k0 (by omega)
theorem X_waited {ro : List (List Int32)} {n d : Nat} {p : xH} {Q : Option Value → xH → Prop} (lo : Option (List yN)) {x : Int32} {xi : Int} {y : Int32} {yi : Int} (hx : x.toInt = xi) (hy : y.toInt = yi) (pre0 : lXo p lo) (pre1 : ∀ j, -1 ≤ (rI p 2 j).toInt) (pre2 : 0 ≤ (rI p 13 7).toInt) (pre3 : (rI p 13 7).toInt ≤ 7) (pre4 : 0 ≤ (rI p 13 9).toInt) (pre5 : (rI p 13 9).toInt ≤ 63) (pre6 : hEr p) (k0 : (¬ (0 ≤ xi ∧ xi < (rI p 13 7).toInt ∧ 0 ≤ yi ∧ yi ≤ 1)) → Q (some (.int (-1))) p) (k1 : ∀ z : Int32, ∀ p2 : xH, (hNt T_ly p p2) → (0 ≤ xi) → (xi < (rI p 13 7).toInt) → (yi = 0) → (z = dWt (drt p 17 19 xi.toNat) (plX p (Xal p lo 0) (rI p 13 7).toInt.toNat (dN (rI p 13 7).toInt.toNat) xi.toNat)) → Q (some (.int z)) p2) (k2 : ∀ z : Int32, ∀ p2 : xH, (hNt T_ly p p2) → (0 ≤ xi) → (xi < (rI p 13 7).toInt) → (yi = 1) → (z.toInt = dBa (plX p (Xal p lo 0) (rI p 13 7).toInt.toNat (dN (rI p 13 7).toInt.toNat) xi.toNat)) → Q (some (.int z)) p2) : hP ro n d (11, 3, 1, 1, k141) 0 (lv_args 0 [.ref 0, .int x, .int y]) [] p Q := by
  subst hx
  subst hy
  refine hp_id (ls := [(0, .ref 0), (1, .int x), (2, .int y)]) ?_
  refine hp_s (pc' := 1) (st' := [.ref 0]) rfl rfl rfl ?_
  refine hp_getr (k := 4) (w := .ref 13) (pc' := 4) rfl rfl rfl rfl rfl ?_
  refine hp_s (pc' := 5) (st' := [.int x, .ref 13]) rfl rfl rfl ?_
  refine hp_cv (r := 13) (o := 1) (kd := 1) (as := [.int x]) (rest := []) (pc' := 8) rfl rfl rfl rfl rfl rfl rfl rfl rfl (fun d1 => ?_)
  refine s_has (xi := x.toInt) rfl ?_ ?_
  ·
    intro h1 h2
    refine hp_id (st := [.int 1]) ?_
    refine hp_go (pc' := 11) rfl rfl rfl ?_
    refine hp_s (pc' := 12) (st' := [.int y]) rfl rfl rfl ?_
    refine hp_if (pc' := 15) (t := 20) (a := y.toInt) rfl rfl rfl rfl (fun (h3 : y.toInt < 0) => ?_) (fun (h4 : ¬ (y.toInt < 0)) => ?_)
    ·
      refine hp_s (pc' := 21) (st' := [.int (-1)]) rfl rfl rfl ?_
      refine hp_ri rfl rfl ?_
      exact k0 (by omega)
    ·
      refine hp_s (pc' := 16) (st' := [.int y]) rfl rfl rfl ?_
      refine hp_s (pc' := 17) (st' := [.int 1, .int y]) rfl rfl rfl ?_
      refine hp_ic (pc' := 20) (t := 22) (a := y.toInt) (b := 1) rfl rfl rfl rfl (by decide) (fun (h5 : y.toInt ≤ 1) => ?_) (fun (h6 : ¬ (y.toInt ≤ 1)) => ?_)
      ·
        refine hp_s (pc' := 23) (st' := [.ref 0]) rfl rfl rfl ?_
        refine hp_getr (k := 8) (w := .ref 34) (pc' := 26) rfl rfl rfl rfl rfl ?_
        refine hp_cv (r := 34) (o := 2) (kd := 1) (as := []) (rest := []) (pc' := 29) rfl rfl rfl rfl rfl rfl rfl rfl rfl (fun d2 => ?_)
        refine s_layByNumbers lo (by first | assumption | omega) (by first | assumption | omega) (by first | assumption | omega) (by first | assumption | omega) (by first | assumption | omega) (by first | assumption | omega) (by first | assumption | omega) ?_
        intro p1 h7 h8
        refine hp_id (st := []) ?_
        refine hp_s (pc' := 30) (st' := [.int y]) rfl rfl rfl ?_
        refine hp_if (pc' := 33) (t := 43) (a := y.toInt) rfl rfl rfl rfl (fun (h9 : y.toInt ≠ 0) => ?_) (fun (h10 : ¬ (y.toInt ≠ 0)) => ?_)
        ·
          refine hp_s (pc' := 44) (st' := [.ref 0]) rfl rfl rfl ?_
          refine hp_getr (k := 8) (w := .ref 34) (pc' := 47) rfl rfl rfl rfl rfl ?_
          refine hp_getr (k := 6) (w := .ref 39) (pc' := 50) rfl rfl rfl rfl rfl ?_
          refine hp_s (pc' := 51) (st' := [.int x, .ref 39]) rfl rfl rfl ?_
          refine hp_ld (t := 101) (v := (rI p1 39 x.toInt.toNat)) rfl (.inr rfl) rfl rfl rfl ?_
          intro (g1a : 0 ≤ x.toInt) (g1b : x.toInt < 7)
          refine hp_if (pc' := 55) (t := 59) (a := (rI p1 39 x.toInt.toNat).toInt) rfl rfl rfl rfl (fun (h11 : (rI p1 39 x.toInt.toNat).toInt = 0) => ?_) (fun (h12 : ¬ ((rI p1 39 x.toInt.toNat).toInt = 0)) => ?_)
          ·
            refine hp_s (pc' := 60) (st' := [.int 0]) rfl rfl rfl ?_
            refine hp_ri rfl rfl ?_
            have d0 := h8 x.toInt.toNat (by omega)
            obtain ⟨-, -, -, d4, d5⟩ := d0
            refine k2 0 _ h7 (by omega) (by omega) (by omega) ?_
            rw [← d5]
            have d6 : ∀ r : dS, dBa r = 0 ∨ dBa r = 1 := fun r => by cases r; exact Or.inr rfl; exact Or.inl rfl
            rcases d6 (plX p (Xal p lo 0) (rI p 13 7).toInt.toNat (dN (rI p 13 7).toInt.toNat) x.toInt.toNat) with g | g <;> rw [g] at d5 <;> first | (exfalso; omega) | (rw [d5]; decide)
          ·
            refine hp_s (pc' := 56) (st' := [.int 1]) rfl rfl rfl ?_
            refine hp_go (pc' := 60) rfl rfl rfl ?_
            refine hp_ri rfl rfl ?_
            have d0 := h8 x.toInt.toNat (by omega)
            obtain ⟨-, -, -, d4, d5⟩ := d0
            refine k2 1 _ h7 (by omega) (by omega) (by omega) ?_
            rw [← d5]
            have d6 : ∀ r : dS, dBa r = 0 ∨ dBa r = 1 := fun r => by cases r; exact Or.inr rfl; exact Or.inl rfl
            rcases d6 (plX p (Xal p lo 0) (rI p 13 7).toInt.toNat (dN (rI p 13 7).toInt.toNat) x.toInt.toNat) with g | g <;> rw [g] at d5 <;> first | (exfalso; omega) | (rw [d5]; decide)
        ·
          refine hp_s (pc' := 34) (st' := [.ref 0]) rfl rfl rfl ?_
          refine hp_getr (k := 8) (w := .ref 34) (pc' := 37) rfl rfl rfl rfl rfl ?_
          refine hp_getr (k := 5) (w := .ref 38) (pc' := 40) rfl rfl rfl rfl rfl ?_
          refine hp_s (pc' := 41) (st' := [.int x, .ref 38]) rfl rfl rfl ?_
          refine hp_ld (t := 100) (v := (rI p1 38 x.toInt.toNat)) rfl (.inl rfl) rfl rfl rfl ?_
          intro (g2a : 0 ≤ x.toInt) (g2b : x.toInt < 7)
          refine hp_ri rfl rfl ?_
          have d0 := h8 x.toInt.toNat (by omega)
          obtain ⟨-, -, -, d4, d5⟩ := d0
          exact k1 _ _ h7 (by omega) (by omega) (by omega) d4
      ·
        refine hp_s (pc' := 21) (st' := [.int (-1)]) rfl rfl rfl ?_
        refine hp_ri rfl rfl ?_
        exact k0 (by omega)
  ·
    intro h13
    refine hp_id (st := [.int 0]) ?_
    refine hp_go (pc' := 20) rfl rfl rfl ?_
    refine hp_s (pc' := 21) (st' := [.int (-1)]) rfl rfl rfl ?_
    refine hp_ri rfl rfl ?_
    exact k0 (by omega)
theorem M_waited {ro : List (List Int32)} {n d : Nat} {p : xH} {Q : Option Value → xH → Prop} (lo : Option (List yN)) {x : Int32} {xi : Int} {y : Int32} {yi : Int} (hx : x.toInt = xi) (hy : y.toInt = yi) (pre0 : lMo p lo) (pre1 : ∀ j, 0 ≤ (rI p 67 j).toInt ∧ (rI p 67 j).toInt < 64) (pre2 : ∀ j, -1 ≤ (rI p 71 j).toInt ∧ (rI p 71 j).toInt < 6) (pre3 : 0 ≤ (rI p 66 6).toInt) (pre4 : (rI p 66 6).toInt ≤ 7) (pre5 : hEm p) (k0 : (¬ (0 ≤ xi ∧ xi < (rI p 66 6).toInt ∧ 0 ≤ yi ∧ yi ≤ 1)) → Q (some (.int (-1))) p) (k1 : ∀ z : Int32, ∀ p2 : xH, (hNt T_pn p p2) → (0 ≤ xi) → (xi < (rI p 66 6).toInt) → (yi = 0) → (z = dWt (drt p 72 74 xi.toNat) (plM p (Mal p lo) (rI p 66 6).toInt.toNat (dN (rI p 66 6).toInt.toNat) xi.toNat)) → Q (some (.int z)) p2) (k2 : ∀ z : Int32, ∀ p2 : xH, (hNt T_pn p p2) → (0 ≤ xi) → (xi < (rI p 66 6).toInt) → (yi = 1) → (z.toInt = dBa (plM p (Mal p lo) (rI p 66 6).toInt.toNat (dN (rI p 66 6).toInt.toNat) xi.toNat)) → Q (some (.int z)) p2) : hP ro n d (12, 3, 1, 1, k222) 0 (lv_args 0 [.ref 66, .int x, .int y]) [] p Q := by
  subst hx
  subst hy
  refine hp_id (ls := [(0, .ref 66), (1, .int x), (2, .int y)]) ?_
  refine hp_s (pc' := 1) (st' := [.ref 66]) rfl rfl rfl ?_
  refine hp_s (pc' := 2) (st' := [.int x, .ref 66]) rfl rfl rfl ?_
  refine hp_cv (r := 66) (o := 12) (kd := 1) (as := [.int x]) (rest := []) (pc' := 5) rfl rfl rfl rfl rfl rfl rfl rfl rfl (fun d1 => ?_)
  refine s_isPerson (xi := x.toInt) rfl (by first | assumption | omega) ?_ ?_
  ·
    intro h1 h2
    refine hp_id (st := [.int 1]) ?_
    refine hp_go (pc' := 8) rfl rfl rfl ?_
    refine hp_s (pc' := 9) (st' := [.int y]) rfl rfl rfl ?_
    refine hp_i2l (pc' := 10) rfl rfl ?_
    intro z1 hz1 ez1
    refine hp_s (pc' := 11) (st' := [.long 0, .long z1]) rfl rfl rfl ?_
    refine hp_s (pc' := 12) (st' := [.long 1, .long 0, .long z1]) rfl rfl rfl ?_
    refine hp_cs (kd := 0) (as := [.long z1, .long 0, .long 1]) (rest := []) (pc' := 15) rfl rfl rfl rfl rfl rfl rfl (fun d2 => ?_)
    refine s_within (vi := y.toInt) ez1 (ai := 0) (by decide) (bi := 1) (by decide) ?_ ?_
    ·
      intro h3 h4
      refine hp_id (st := [.int 1]) ?_
      refine hp_go (pc' := 20) rfl rfl rfl ?_
      refine hp_s (pc' := 21) (st' := [.ref 66]) rfl rfl rfl ?_
      refine hp_s (pc' := 22) (st' := [.int (-1), .ref 66]) rfl rfl rfl ?_
      refine hp_cv (r := 66) (o := 12) (kd := 1) (as := [.int (-1)]) (rest := []) (pc' := 25) rfl rfl rfl rfl rfl rfl rfl rfl rfl (fun d3 => ?_)
      refine s_plansNow lo (by first | assumption | omega) (by first | assumption | omega) (by first | assumption | omega) (by first | assumption | omega) (by first | assumption | omega) (by first | assumption | omega) ?_
      intro p1 h5 h6
      refine hp_id (st := []) ?_
      refine hp_s (pc' := 26) (st' := [.int y]) rfl rfl rfl ?_
      refine hp_if (pc' := 29) (t := 38) (a := y.toInt) rfl rfl rfl rfl (fun (h7 : y.toInt ≠ 0) => ?_) (fun (h8 : ¬ (y.toInt ≠ 0)) => ?_)
      ·
        refine hp_s (pc' := 39) (st' := [.ref 66]) rfl rfl rfl ?_
        refine hp_getr (k := 23) (w := .ref 80) (pc' := 42) rfl rfl rfl rfl rfl ?_
        refine hp_s (pc' := 43) (st' := [.int x, .ref 80]) rfl rfl rfl ?_
        refine hp_ld (t := 101) (v := (rI p1 80 x.toInt.toNat)) rfl (.inr rfl) rfl rfl rfl ?_
        intro (g1a : 0 ≤ x.toInt) (g1b : x.toInt < 7)
        refine hp_if (pc' := 47) (t := 51) (a := (rI p1 80 x.toInt.toNat).toInt) rfl rfl rfl rfl (fun (h9 : (rI p1 80 x.toInt.toNat).toInt = 0) => ?_) (fun (h10 : ¬ ((rI p1 80 x.toInt.toNat).toInt = 0)) => ?_)
        ·
          refine hp_s (pc' := 52) (st' := [.int 0]) rfl rfl rfl ?_
          refine hp_ri rfl rfl ?_
          have d0 := h6 x.toInt.toNat (by omega)
          obtain ⟨-, d5, d4⟩ := d0
          refine k2 0 _ h5 (by omega) (by omega) (by omega) ?_
          rw [← d5]
          have d6 : ∀ r : dS, dBa r = 0 ∨ dBa r = 1 := fun r => by cases r; exact Or.inr rfl; exact Or.inl rfl
          rcases d6 (plM p (Mal p lo) (rI p 66 6).toInt.toNat (dN (rI p 66 6).toInt.toNat) x.toInt.toNat) with g | g <;> rw [g] at d5 <;> first | (exfalso; omega) | (rw [d5]; decide)
        ·
          refine hp_s (pc' := 48) (st' := [.int 1]) rfl rfl rfl ?_
          refine hp_go (pc' := 52) rfl rfl rfl ?_
          refine hp_ri rfl rfl ?_
          have d0 := h6 x.toInt.toNat (by omega)
          obtain ⟨-, d5, d4⟩ := d0
          refine k2 1 _ h5 (by omega) (by omega) (by omega) ?_
          rw [← d5]
          have d6 : ∀ r : dS, dBa r = 0 ∨ dBa r = 1 := fun r => by cases r; exact Or.inr rfl; exact Or.inl rfl
          rcases d6 (plM p (Mal p lo) (rI p 66 6).toInt.toNat (dN (rI p 66 6).toInt.toNat) x.toInt.toNat) with g | g <;> rw [g] at d5 <;> first | (exfalso; omega) | (rw [d5]; decide)
      ·
        refine hp_s (pc' := 30) (st' := [.ref 66]) rfl rfl rfl ?_
        refine hp_getr (k := 24) (w := .ref 81) (pc' := 33) rfl rfl rfl rfl rfl ?_
        refine hp_s (pc' := 34) (st' := [.int x, .ref 81]) rfl rfl rfl ?_
        refine hp_ld (t := 100) (v := (rI p1 81 x.toInt.toNat)) rfl (.inl rfl) rfl rfl rfl ?_
        intro (g2a : 0 ≤ x.toInt) (g2b : x.toInt < 7)
        refine hp_go (pc' := 52) rfl rfl rfl ?_
        refine hp_ri rfl rfl ?_
        have d0 := h6 x.toInt.toNat (by omega)
        obtain ⟨-, d5, d4⟩ := d0
        exact k1 _ _ h5 (by omega) (by omega) (by omega) d4
    ·
      intro h11
      refine hp_id (st := [.int 0]) ?_
      refine hp_go (pc' := 18) rfl rfl rfl ?_
      refine hp_s (pc' := 19) (st' := [.int (-1)]) rfl rfl rfl ?_
      refine hp_ri rfl rfl ?_
      exact k0 (by omega)
  ·
    intro h12
    refine hp_id (st := [.int 0]) ?_
    refine hp_go (pc' := 18) rfl rfl rfl ?_
    refine hp_s (pc' := 19) (st' := [.int (-1)]) rfl rfl rfl ?_
    refine hp_ri rfl rfl ?_
    exact k0 (by omega)
