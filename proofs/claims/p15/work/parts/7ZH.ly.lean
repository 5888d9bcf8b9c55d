/-! contracts of methods, walked -/
theorem dre_e {p p2 : xH} {r : Nat} (h : ∀ j, rI p2 r j = rI p r j) : dre p2 r = dre p r := by
  funext n
  unfold dre
  rw [h]
theorem drs_e {p p2 : xH} {r : Nat} (h : ∀ j, rI p2 r j = rI p r j) : drs p2 r = drs p r := by
  funext n k
  unfold drs
  rw [h]
theorem drt_e {p p2 : xH} {r r2 : Nat} (h : ∀ j, rI p2 r j = rI p r j) (h2 : ∀ j, rI p2 r2 j = rI p r2 j) : drt p2 r r2 = drt p r r2 := by
  funext n
  unfold drt
  rw [h]
  exact hSum_eq (fun j _ => h2 _)
/-- the errands are as they should be -/
def hEr (p : xH) : Prop := (∀ j, 0 ≤ (rI p 17 j).toInt ∧ (rI p 17 j).toInt ≤ 4) ∧ (∀ j, 0 ≤ (rI p 18 j).toInt ∧ (rI p 18 j).toInt ≤ 4) ∧ (∀ j, (rI p 19 j).toInt ≤ 6) ∧ C_em p
theorem hEr_e {p p2 : xH} (h : hEr p) (e17 : ∀ j, rI p2 17 j = rI p 17 j) (e18 : ∀ j, rI p2 18 j = rI p 18 j) (e19 : ∀ j, rI p2 19 j = rI p 19 j) : hEr p2 := by
  obtain ⟨a, b, c, d⟩ := h
  exact ⟨fun j => by rw [e17]; exact a j, fun j => by rw [e18]; exact b j, fun j => by rw [e19]; exact c j, fun n hn k hk => by rw [e17] at hk; rw [e19]; exact d n hn k hk⟩
theorem hEr_s {p : xH} (h : hEr p) (n : Nat) : ∀ k, k < dre p 17 n → 0 ≤ drs p 18 n k ∧ drs p 18 n k ≤ 4 := fun k _ => h.2.1 _
theorem hEr_t {p : xH} (h : hEr p) {n : Nat} (hn : n < 7) : ∀ k, k < dre p 17 n → 1 ≤ drs p 19 n k ∧ drs p 19 n k ≤ 6 := fun k hk => ⟨h.2.2.2 n hn k hk, h.2.2.1 _⟩
noncomputable abbrev plX (p : xH) (A : Nat → Nat → Prop) (S : Nat) (l : List Nat) : Nat → dS := dL A S (dre p 17) (drs p 18) (drs p 19) l
theorem plX_e {p p2 : xH} {A : Nat → Nat → Prop} {S : Nat} {l : List Nat} (e17 : ∀ j, rI p2 17 j = rI p 17 j) (e18 : ∀ j, rI p2 18 j = rI p 18 j) (e19 : ∀ j, rI p2 19 j = rI p 19 j) : plX p2 A S l = plX p A S l := by
  unfold plX
  rw [dre_e e17, drs_e e18, drs_e e19]
theorem plX_r {p : xH} {A : Nat → Nat → Prop} {S : Nat} (h : hEr p) : ∀ {l : List Nat}, (∀ j ∈ l, j < 7) → ∀ j m, -1 ≤ dw (plX p A S l j) m ∧ dw (plX p A S l j) m ≤ 4
  | [], _, j, m => ⟨by show (-1 : Int) ≤ -1; decide, by show (-1 : Int) ≤ 4; decide⟩
  | n :: l, hl, j, m => by
    have ih := plX_r h (A := A) (S := S) (l := l) (fun j hj => hl j (List.mem_cons_of_mem _ hj)) j m
    by_cases g : j = n
    · rw [g]
      show -1 ≤ dw (dL _ _ _ _ _ (n :: l) n) m ∧ dw (dL _ _ _ _ _ (n :: l) n) m ≤ 4
      rw [dL_h]
      cases hq : dK (dSh A S (dL A S (dre p 17) (drs p 18) (drs p 19) l) l n) (drs p 18 n) (drs p 19 n) (dre p 17 n) with
      | none => exact ⟨by show (-1 : Int) ≤ -1; decide, by show (-1 : Int) ≤ 4; decide⟩
      | some q => exact (dK_inv (hEr_s h n) (hEr_t h (hl n List.mem_cons_self)) (Nat.le_refl _) hq).2.2.2.1 m
    · show -1 ≤ dw (dL _ _ _ _ _ (n :: l) j) m ∧ dw (dL _ _ _ _ _ (n :: l) j) m ≤ 4
      rw [dL_t g]
      exact ih
theorem lp_25 {ro : List (List Int32)} {d : Nat} {Q : Option Value → xH → Prop} {p0 : xH} {S : Nat} {A : Nat → Nat → Prop} (g0 : (rI p0 13 7).toInt = (S : Int)) (hS7 : S ≤ 7) (hR : ∀ n, n < S → hLk A S n (rI p0 33 n)) (hE : hEr p0) (K : ∀ p2 : xH, hNt T_dx p0 p2 → (∀ j, j < S → hDr p2 j (plX p0 A S (dN S) j) (drt p0 17 19 j)) → Q none p2) : ∀ (n : Nat) (x : Int32) (a : Int32) (p : xH), (0 ≤ x.toInt) → (x.toInt ≤ S) → (hNt T_dx p0 p) → (∀ j, j < 32 → (bI a j = true ↔ j ∈ dN x.toInt.toNat)) → (∀ j, j < x.toInt.toNat → hDr p j (plX p0 A S (dN x.toInt.toNat) j) (drt p0 17 19 j)) → hP ro n d (2, 4, 1, 0, k25) 4 [(3, .int x), (2, .int a), (0, .ref 34), (1, .int (-1))] [] p Q := by
  intro n
  induction n with
  | zero => intros; exact hp_0
  | succ n ih =>
    intro x a p hx1 hx2 hN ha hD
    have e13 : (rI p 13 7).toInt = (S : Int) := by rw [hN.int (r := 13) (k := 7) rfl]; exact g0
    have f17 : ∀ j, rI p 17 j = rI p0 17 j := fun j => hN.int (r := 17) rfl
    have f18 : ∀ j, rI p 18 j = rI p0 18 j := fun j => hN.int (r := 18) rfl
    have f19 : ∀ j, rI p 19 j = rI p0 19 j := fun j => hN.int (r := 19) rfl
    have hEp : hEr p := hEr_e hE f17 f18 f19
    refine hp_s1 (pc' := 5) (st' := [.int x]) rfl rfl rfl ?_
    refine hp_s (pc' := 6) (st' := [.ref 34, .int x]) rfl rfl rfl ?_
    refine hp_getr (k := 0) (w := .ref 13) (pc' := 9) rfl rfl rfl rfl rfl ?_
    refine hp_get (k := 7) (pc' := 12) (v := (rI p 13 7)) rfl rfl rfl rfl rfl rfl ?_
    refine hp_ic (pc' := 15) (t := 42) (a := x.toInt) (b := (rI p 13 7).toInt) rfl rfl rfl rfl rfl (fun (h1 : (rI p 13 7).toInt ≤ x.toInt) => ?_) (fun (h2 : ¬ ((rI p 13 7).toInt ≤ x.toInt)) => ?_)
    ·
      refine hp_rv rfl rfl ?_
      rw [show x.toInt.toNat = S by omega] at hD
      exact K p hN hD
    ·
      refine hp_s (pc' := 16) (st' := [.int x]) rfl rfl rfl ?_
      refine hp_s (pc' := 17) (st' := [.int (-1), .int x]) rfl rfl rfl ?_
      refine hp_ic (pc' := 20) (t := 23) (a := x.toInt) (b := (-1)) rfl rfl rfl rfl (by decide) (fun (h3 : x.toInt ≠ (-1)) => ?_) (fun (h4 : ¬ (x.toInt ≠ (-1))) => ?_)
      ·
        have t1 : hLk A S x.toInt.toNat (rI p 33 x.toInt.toNat) := by rw [hN.int (r := 33) rfl]; exact hR _ (by omega)
        have t2 : ∀ j, j ∈ dN x.toInt.toNat → j < S → hDb p j (dw (plX p0 A S (dN x.toInt.toNat) j)) := fun j hj _ => (hD j (dN_mem.mp hj)).1
        have t3 := hEp.1 x.toInt.toNat
        have t4 := hEr_s hEp x.toInt.toNat
        have t5 := hEr_t hEp (n := x.toInt.toNat) (by omega)
        refine hp_s (pc' := 24) (st' := [.ref 34]) rfl rfl rfl ?_
        refine hp_s (pc' := 25) (st' := [.int x, .ref 34]) rfl rfl rfl ?_
        refine hp_s (pc' := 26) (st' := [.int a, .int x, .ref 34]) rfl rfl rfl ?_
        refine hp_cv (r := 34) (o := 2) (kd := 1) (as := [.int x, .int a]) (rest := []) (pc' := 29) rfl rfl rfl rfl rfl rfl rfl rfl rfl (fun d1 => ?_)
        refine s_takeTurn S A (plX p0 A S (dN x.toInt.toNat)) (dN x.toInt.toNat) (xi := x.toInt) rfl (ai := a.toInt) rfl (by first | assumption | omega) (by first | assumption | omega) (by first | assumption | omega) (by first | assumption | omega) (by first | assumption | omega) (by first | assumption | omega) (by first | assumption | omega) (by first | assumption | omega) (by first | assumption | omega) (by first | assumption | omega) ?_
        intro y1 p1 h5 h6 h7 h8
        rw [dre_e f17, drs_e f18, drs_e f19, drt_e f17 f19] at h7
        refine hp_id (st := [.int y1]) ?_
        refine hp_s (pc' := 30) (st' := []) rfl rfl rfl ?_
        refine hp_s (pc' := 31) (st' := [.int a]) rfl rfl rfl ?_
        refine hp_s (pc' := 32) (st' := [.int 1, .int a]) rfl rfl rfl ?_
        refine hp_s (pc' := 33) (st' := [.int x, .int 1, .int a]) rfl rfl rfl ?_
        refine hp_z (pc' := 34) (e := 1 <<< (x &&& 31)) (st' := [.int a]) rfl rfl rfl ?_
        intro z1 hz1
        refine hp_z (pc' := 35) (e := a ||| z1) (st' := []) rfl rfl rfl ?_
        intro z2 hz2
        refine hp_s (pc' := 36) (ls' := [(2, .int z2), (3, .int x), (0, .ref 34), (1, .int (-1))]) (st' := []) rfl rfl rfl ?_
        refine hp_inc (L := fun z_ => [(3, .int z_), (2, .int z2), (0, .ref 34), (1, .int (-1))]) (pc' := 39) rfl rfl rfl (fun _ => rfl) rfl ?_
        intro z3 hz3
        have ez3 := i_add hz3 (show x.toInt = x.toInt from rfl) (show (Int32.ofInt 1).toInt = 1 from by decide)
        refine hp_go (pc' := 4) rfl rfl rfl ?_
        refine ih z3 z2 p1 (by omega) (by omega) (hN.trans h5) (fun j hj => ?_) (fun j hj => ?_)
        · rw [show z3.toInt.toNat = x.toInt.toNat + 1 by omega, hz2, hz1, bI_or, Bool.or_eq_true, ha j hj, bI_p (j := x.toInt.toNat) (by omega) (by omega) hj, decide_eq_true_iff, dN_mem, dN_mem]; omega
        · rw [show z3.toInt.toNat = x.toInt.toNat + 1 by omega] at hj ⊢
          by_cases g : j = x.toInt.toNat
          · rw [g]; show hDr _ _ (dL _ _ _ _ _ (x.toInt.toNat :: dN x.toInt.toNat) x.toInt.toNat) _; rw [dL_h]; exact h7
          · show hDr _ _ (dL _ _ _ _ _ (x.toInt.toNat :: dN x.toInt.toNat) j) _; rw [dL_t g]; exact hDr_ot h6 g (hD j (by omega))
      ·
        refine hp_go (pc' := 36) rfl rfl rfl ?_
        refine hp_inc (L := fun z_ => [(3, .int z_), (2, .int a), (0, .ref 34), (1, .int (-1))]) (pc' := 39) rfl rfl rfl (fun _ => rfl) rfl ?_
        intro z4 hz4
        have ez4 := i_add hz4 (show x.toInt = x.toInt from rfl) (show (Int32.ofInt 1).toInt = 1 from by decide)
        refine hp_go (pc' := 4) rfl rfl rfl ?_
        exfalso; omega
theorem s_layWithout {ro : List (List Int32)} {n d : Nat} {p : xH} {Q : Option Value → xH → Prop} (S : Nat) (A : Nat → Nat → Prop)  (pre0 : (rI p 13 7).toInt = (S : Int)) (pre1 : S ≤ 7) (pre2 : ∀ n, n < S → hLk A S n (rI p 33 n)) (pre3 : hEr p) (k0 : ∀ p2 : xH, (hNt T_dx p p2) → (∀ j, j < S → hDr p2 j (plX p A S (dN S) j) (drt p 17 19 j)) → Q none p2) : hP ro n d (2, 4, 1, 0, k25) 0 (lv_args 0 [.ref 34, .int (-1)]) [] p Q := by
  refine hp_id (ls := [(0, .ref 34), (1, .int (-1))]) ?_
  refine hp_s (pc' := 1) (st' := [.int 0]) rfl rfl rfl ?_
  refine hp_s (pc' := 2) (ls' := [(2, .int 0), (0, .ref 34), (1, .int (-1))]) (st' := []) rfl rfl rfl ?_
  refine hp_s (pc' := 3) (st' := [.int 0]) rfl rfl rfl ?_
  refine hp_s (pc' := 4) (ls' := [(3, .int 0), (2, .int 0), (0, .ref 34), (1, .int (-1))]) (st' := []) rfl rfl rfl ?_
  exact lp_25 (p0 := p) pre0 pre1 pre2 pre3 (fun p2 h1 h2 => k0 p2 h1 h2) n 0 0 p (by decide) (by have h00 : (0 : Int32).toInt = 0 := (by decide); omega) (hNt.refl _ _) (fun j _ => by rw [bI_0, i_ofz, dN_mem]; exact ⟨fun g => (by cases g), fun g => absurd g (Nat.not_lt_zero _)⟩) (fun j hj => absurd hj (by rw [i_ofz]; exact Nat.not_lt_zero _))
theorem s_layByNumbers {ro : List (List Int32)} {n d : Nat} {p : xH} {Q : Option Value → xH → Prop} (lo : Option (List yN))  (pre0 : lXo p lo) (pre1 : ∀ j, -1 ≤ (rI p 2 j).toInt) (pre2 : 0 ≤ (rI p 13 7).toInt) (pre3 : (rI p 13 7).toInt ≤ 7) (pre4 : 0 ≤ (rI p 13 9).toInt) (pre5 : (rI p 13 9).toInt ≤ 63) (pre6 : hEr p) (k0 : ∀ p2 : xH, (hNt T_ly p p2) → (∀ j, j < (rI p 13 7).toInt.toNat → hDr p2 j (plX p (Xal p lo 0) (rI p 13 7).toInt.toNat (dN (rI p 13 7).toInt.toNat) j) (drt p 17 19 j)) → Q none p2) : hP ro n d (2, 1, 1, 0, k24) 0 (lv_args 0 [.ref 34]) [] p Q := by
  refine hp_id (ls := [(0, .ref 34)]) ?_
  refine hp_s (pc' := 1) (st' := [.ref 34]) rfl rfl rfl ?_
  refine hp_getr (k := 1) (w := .ref 32) (pc' := 4) rfl rfl rfl rfl rfl ?_
  refine hp_cv (r := 32) (o := 4) (kd := 1) (as := []) (rest := []) (pc' := 7) rfl rfl rfl rfl rfl rfl rfl rfl rfl (fun d1 => ?_)
  refine s_lookAround lo (by first | assumption | omega) (by first | assumption | omega) (by first | assumption | omega) (by first | assumption | omega) (by first | assumption | omega) (by first | assumption | omega) ?_
  intro p1 h1 h2
  skip
  refine hp_id (st := []) ?_
  refine hp_s (pc' := 8) (st' := [.ref 34]) rfl rfl rfl ?_
  have t0 : (rI p1 13 7).toInt = ((rI p 13 7).toInt.toNat : Int) := by rw [h1.int (r := 13) (k := 7) rfl]; omega
  have t1 : (rI p 13 7).toInt.toNat ≤ 7 := by omega
  have f17 : ∀ j, rI p1 17 j = rI p 17 j := fun j => h1.int (r := 17) rfl
  have f18 : ∀ j, rI p1 18 j = rI p 18 j := fun j => h1.int (r := 18) rfl
  have f19 : ∀ j, rI p1 19 j = rI p 19 j := fun j => h1.int (r := 19) rfl
  have hEp : hEr p1 := hEr_e pre6 f17 f18 f19
  refine hp_s (pc' := 9) (st' := [.int (-1), .ref 34]) rfl rfl rfl ?_
  refine hp_cv (r := 34) (o := 2) (kd := 1) (as := [.int (-1)]) (rest := []) (pc' := 12) rfl rfl rfl rfl rfl rfl rfl rfl rfl (fun d2 => ?_)
  refine s_layWithout (rI p 13 7).toInt.toNat (Xal p lo 0) (by first | assumption | omega) (by first | assumption | omega) (by first | assumption | omega) (by first | assumption | omega) ?_
  intro p2 h3 h4
  rw [plX_e f17 f18 f19, drt_e f17 f19] at h4
  refine hp_id (st := []) ?_
  refine hp_rv rfl rfl ?_
  exact k0 _ (hNt.trans (h1.up (by decide)) (h3.up (by decide))) h4
theorem lp_30 {ro : List (List Int32)} {d : Nat} {Q : Option Value → xH → Prop} {S : Nat} {W : Nat → dS} {T : Nat → Int32} {p : xH} (g0 : (rI p 13 7).toInt = (S : Int)) (hS7 : S ≤ 7) (hD : ∀ j, j < S → hDr p j (W j) (T j)) (K : ∀ z : Int32, z = hSum (fun j => dCt (T j) (W j)) S → Q (some (.int z)) p) : ∀ (n : Nat) (k : Int32) (b : Int32), (0 ≤ k.toInt) → (k.toInt ≤ S) → (b = hSum (fun j => dCt (T j) (W j)) k.toInt.toNat) → hP ro n d (2, 3, 1, 1, k30) 4 [(2, .int k), (1, .int b), (0, .ref 34)] [] p Q := by
  intro n
  induction n with
  | zero => intros; exact hp_0
  | succ n ih =>
    intro k b hk1 hk2 hb
    refine hp_s1 (pc' := 5) (st' := [.int k]) rfl rfl rfl ?_
    refine hp_s (pc' := 6) (st' := [.ref 34, .int k]) rfl rfl rfl ?_
    refine hp_getr (k := 0) (w := .ref 13) (pc' := 9) rfl rfl rfl rfl rfl ?_
    refine hp_get (k := 7) (pc' := 12) (v := (rI p 13 7)) rfl rfl rfl rfl rfl rfl ?_
    refine hp_ic (pc' := 15) (t := 44) (a := k.toInt) (b := (rI p 13 7).toInt) rfl rfl rfl rfl rfl (fun (h1 : (rI p 13 7).toInt ≤ k.toInt) => ?_) (fun (h2 : ¬ ((rI p 13 7).toInt ≤ k.toInt)) => ?_)
    ·
      refine hp_s (pc' := 45) (st' := [.int b]) rfl rfl rfl ?_
      refine hp_ri rfl rfl ?_
      exact K _ (by rw [show S = k.toInt.toNat by omega]; exact hb)
    ·
      obtain ⟨-, -, -, d4, d5⟩ := hD k.toInt.toNat (by omega)
      refine hp_s (pc' := 16) (st' := [.int b]) rfl rfl rfl ?_
      refine hp_s (pc' := 17) (st' := [.ref 34, .int b]) rfl rfl rfl ?_
      refine hp_getr (k := 6) (w := .ref 39) (pc' := 20) rfl rfl rfl rfl rfl ?_
      refine hp_s (pc' := 21) (st' := [.int k, .ref 39, .int b]) rfl rfl rfl ?_
      refine hp_ld (t := 101) (v := (rI p 39 k.toInt.toNat)) rfl (.inr rfl) rfl rfl rfl ?_
      intro (g1a : 0 ≤ k.toInt) (g1b : k.toInt < 7)
      refine hp_if (pc' := 25) (t := 30) (a := (rI p 39 k.toInt.toNat).toInt) rfl rfl rfl rfl (fun (h3 : (rI p 39 k.toInt.toNat).toInt = 0) => ?_) (fun (h4 : ¬ ((rI p 39 k.toInt.toNat).toInt = 0)) => ?_)
      ·
        refine hp_s (pc' := 31) (st' := [.ref 34, .int b]) rfl rfl rfl ?_
        refine hp_getr (k := 5) (w := .ref 38) (pc' := 34) rfl rfl rfl rfl rfl ?_
        refine hp_s (pc' := 35) (st' := [.int k, .ref 38, .int b]) rfl rfl rfl ?_
        refine hp_ld (t := 100) (v := (rI p 38 k.toInt.toNat)) rfl (.inl rfl) rfl rfl rfl ?_
        intro (g2a : 0 ≤ k.toInt) (g2b : k.toInt < 7)
        refine hp_z (pc' := 37) (e := b + (rI p 38 k.toInt.toNat)) (st' := []) rfl rfl rfl ?_
        intro z1 hz1
        have ez1 := i_add hz1 (show b.toInt = b.toInt from rfl) (show (rI p 38 k.toInt.toNat).toInt = (rI p 38 k.toInt.toNat).toInt from rfl)
        refine hp_s (pc' := 38) (ls' := [(1, .int z1), (2, .int k), (0, .ref 34)]) (st' := []) rfl rfl rfl ?_
        refine hp_inc (L := fun z_ => [(2, .int z_), (1, .int z1), (0, .ref 34)]) (pc' := 41) rfl rfl rfl (fun _ => rfl) rfl ?_
        intro z2 hz2
        have ez2 := i_add hz2 (show k.toInt = k.toInt from rfl) (show (Int32.ofInt 1).toInt = 1 from by decide)
        refine hp_go (pc' := 4) rfl rfl rfl ?_
        refine ih z2 z1 (by omega) (by omega) ?_
        rw [show z2.toInt.toNat = k.toInt.toNat + 1 by omega, hz1, hb]
        show _ = hSum _ _ + dCt (T k.toInt.toNat) (W k.toInt.toNat)
        cases hw : W k.toInt.toNat with
        | none => rw [hw] at d4 d5; have d5 : (rI p 39 k.toInt.toNat).toInt = 1 := d5; first | rfl | (exfalso; omega)
        | some q => rw [hw] at d4 d5; have d5 : (rI p 39 k.toInt.toNat).toInt = 0 := d5; first | (exfalso; omega) | (rw [d4]; rfl)
      ·
        refine hp_s (pc' := 27) (st' := [.int 30, .int b]) rfl rfl rfl ?_
        refine hp_go (pc' := 36) rfl rfl rfl ?_
        refine hp_z (pc' := 37) (e := b + 30) (st' := []) rfl rfl rfl ?_
        intro z3 hz3
        have ez3 := i_add hz3 (show b.toInt = b.toInt from rfl) (show (30 : Int32).toInt = 30 from by decide)
        refine hp_s (pc' := 38) (ls' := [(1, .int z3), (2, .int k), (0, .ref 34)]) (st' := []) rfl rfl rfl ?_
        refine hp_inc (L := fun z_ => [(2, .int z_), (1, .int z3), (0, .ref 34)]) (pc' := 41) rfl rfl rfl (fun _ => rfl) rfl ?_
        intro z4 hz4
        have ez4 := i_add hz4 (show k.toInt = k.toInt from rfl) (show (Int32.ofInt 1).toInt = 1 from by decide)
        refine hp_go (pc' := 4) rfl rfl rfl ?_
        refine ih z4 z3 (by omega) (by omega) ?_
        rw [show z4.toInt.toNat = k.toInt.toNat + 1 by omega, hz3, hb]
        show _ = hSum _ _ + dCt (T k.toInt.toNat) (W k.toInt.toNat)
        cases hw : W k.toInt.toNat with
        | none => rw [hw] at d4 d5; have d5 : (rI p 39 k.toInt.toNat).toInt = 1 := d5; first | rfl | (exfalso; omega)
        | some q => rw [hw] at d4 d5; have d5 : (rI p 39 k.toInt.toNat).toInt = 0 := d5; first | (exfalso; omega) | (rw [d4]; rfl)
theorem s_waitedByAll {ro : List (List Int32)} {n d : Nat} {p : xH} {Q : Option Value → xH → Prop} (S : Nat) (W : Nat → dS) (T : Nat → Int32)  (pre0 : (rI p 13 7).toInt = (S : Int)) (pre1 : S ≤ 7) (pre2 : ∀ j, j < S → hDr p j (W j) (T j)) (k0 : ∀ z : Int32, (z = hSum (fun j => dCt (T j) (W j)) S) → Q (some (.int z)) p) : hP ro n d (2, 3, 1, 1, k30) 0 (lv_args 0 [.ref 34]) [] p Q := by
  refine hp_id (ls := [(0, .ref 34)]) ?_
  refine hp_s (pc' := 1) (st' := [.int 0]) rfl rfl rfl ?_
  refine hp_s (pc' := 2) (ls' := [(1, .int 0), (0, .ref 34)]) (st' := []) rfl rfl rfl ?_
  refine hp_s (pc' := 3) (st' := [.int 0]) rfl rfl rfl ?_
  refine hp_s (pc' := 4) (ls' := [(2, .int 0), (1, .int 0), (0, .ref 34)]) (st' := []) rfl rfl rfl ?_
  exact lp_30 (W := W) (T := T) pre0 pre1 pre2 k0 n 0 0 (by decide) (by have h00 : (0 : Int32).toInt = 0 := (by decide); omega) (by rw [i_ofz]; rfl)
theorem lp_31 {ro : List (List Int32)} {d : Nat} {Q : Option Value → xH → Prop} {x m : Int32} {w : Int → Int} {p : xH} (x0 : 0 ≤ x.toInt) (x7 : x.toInt < 7) (m0 : 0 ≤ m.toInt) (m30 : m.toInt < 30) (hD : hDb p x.toInt.toNat w) (hw : ∀ u, -1 ≤ w u ∧ w u ≤ 4) (K : ∀ z : Int32, z.toInt = w m.toInt → Q (some (.int z)) p) : ∀ (n : Nat) (k : Int32), (0 ≤ k.toInt) → (k.toInt ≤ 5) → (∀ j : Nat, j < k.toInt.toNat → w m.toInt ≠ j) → hP ro n d (2, 4, 1, 1, k31) 2 [(3, .int k), (0, .ref 34), (1, .int x), (2, .int m)] [] p Q := by
  intro n
  induction n with
  | zero => intros; exact hp_0
  | succ n ih =>
    intro k hk1 hk2 hm
    refine hp_s1 (pc' := 3) (st' := [.int k]) rfl rfl rfl ?_
    refine hp_s (pc' := 4) (st' := [.int 5, .int k]) rfl rfl rfl ?_
    refine hp_ic (pc' := 7) (t := 33) (a := k.toInt) (b := 5) rfl rfl rfl rfl (by decide) (fun (h1 : 5 ≤ k.toInt) => ?_) (fun (h2 : ¬ (5 ≤ k.toInt)) => ?_)
    ·
      refine hp_s (pc' := 34) (st' := [.int (-1)]) rfl rfl rfl ?_
      refine hp_ri rfl rfl ?_
      refine K (-1) ?_
      have q := hw m.toInt
      rcases Int.lt_or_le (w m.toInt) 0 with g | g
      · have h11 : (-1 : Int32).toInt = -1 := (by decide); omega
      · exact absurd (show w m.toInt = (((w m.toInt).toNat : Nat) : Int) by omega) (hm _ (by omega))
    ·
      refine hp_s (pc' := 8) (st' := [.ref 34]) rfl rfl rfl ?_
      refine hp_getr (k := 2) (w := .ref 35) (pc' := 11) rfl rfl rfl rfl rfl ?_
      refine hp_s (pc' := 12) (st' := [.int x, .ref 35]) rfl rfl rfl ?_
      refine hp_s (pc' := 13) (st' := [.int 5, .int x, .ref 35]) rfl rfl rfl ?_
      refine hp_z (pc' := 14) (e := x * 5) (st' := [.ref 35]) rfl rfl rfl ?_
      intro z1 hz1
      have ez1 := i_mul hz1 (show x.toInt = x.toInt from rfl) (show (5 : Int32).toInt = 5 from by decide)
      refine hp_s (pc' := 15) (st' := [.int k, .int z1, .ref 35]) rfl rfl rfl ?_
      refine hp_z (pc' := 16) (e := z1 + k) (st' := [.ref 35]) rfl rfl rfl ?_
      intro z2 hz2
      have ez2 := i_add hz2 (show z1.toInt = z1.toInt from rfl) (show k.toInt = k.toInt from rfl)
      refine hp_ld (t := 100) (v := (rI p 35 z2.toInt.toNat)) rfl (.inl rfl) rfl rfl rfl ?_
      intro (g1a : 0 ≤ z2.toInt) (g1b : z2.toInt < 35)
      have q9 : (rI p 35 z2.toInt.toNat) = rI p 35 (5 * x.toInt.toNat + k.toInt.toNat) := by congr 1; omega
      refine hp_s (pc' := 18) (st' := [.int m, .int (rI p 35 z2.toInt.toNat)]) rfl rfl rfl ?_
      refine hp_z (pc' := 19) (e := (rI p 35 z2.toInt.toNat) >>> (m &&& 31)) (st' := []) rfl rfl rfl ?_
      intro z3 hz3
      refine hp_s (pc' := 20) (st' := [.int 1, .int z3]) rfl rfl rfl ?_
      refine hp_z (pc' := 21) (e := z3 &&& 1) (st' := []) rfl rfl rfl ?_
      intro z4 hz4
      have hbit : z4.toInt = if bI (rI p 35 (5 * x.toInt.toNat + k.toInt.toNat)) m.toInt.toNat then 1 else 0 := by rw [hz4, hz3, q9]; exact bI_at _ (by omega) (by omega)
      refine hp_s (pc' := 22) (st' := [.int 1, .int z4]) rfl rfl rfl ?_
      refine hp_ic (pc' := 25) (t := 27) (a := z4.toInt) (b := 1) rfl rfl rfl rfl (by decide) (fun (h3 : z4.toInt ≠ 1) => ?_) (fun (h4 : ¬ (z4.toInt ≠ 1)) => ?_)
      ·
        refine hp_inc (L := fun z_ => [(3, .int z_), (0, .ref 34), (1, .int x), (2, .int m)]) (pc' := 30) rfl rfl rfl (fun _ => rfl) rfl ?_
        intro z5 hz5
        have ez5 := i_add hz5 (show k.toInt = k.toInt from rfl) (show (Int32.ofInt 1).toInt = 1 from by decide)
        refine hp_go (pc' := 2) rfl rfl rfl ?_
        refine ih z5 (by omega) (by omega) (fun j hj e => ?_)
        by_cases g : j < k.toInt.toNat
        · exact hm j g e
        · rw [(hD k.toInt.toNat (by omega) m.toInt.toNat (by omega)).mpr (by rw [show ((m.toInt.toNat : Nat) : Int) = m.toInt by omega, e]; omega), if_pos rfl] at hbit; omega
      ·
        refine hp_s (pc' := 26) (st' := [.int k]) rfl rfl rfl ?_
        refine hp_ri rfl rfl ?_
        refine K k ?_
        have q := (hD k.toInt.toNat (by omega) m.toInt.toNat (by omega)).mp (b_if (hbit.symm.trans (by omega)))
        rw [show ((m.toInt.toNat : Nat) : Int) = m.toInt by omega] at q
        omega
theorem s_streetOf {ro : List (List Int32)} {n d : Nat} {p : xH} {Q : Option Value → xH → Prop} (w : Int → Int) {x : Int32} {xi : Int} {m : Int32} {mi : Int} (hx : x.toInt = xi) (hm : m.toInt = mi) (pre0 : 0 ≤ xi) (pre1 : xi < 7) (pre2 : 0 ≤ mi) (pre3 : mi < 30) (pre4 : hDb p xi.toNat w) (pre5 : ∀ u, -1 ≤ w u ∧ w u ≤ 4) (k0 : ∀ z : Int32, (z.toInt = w mi) → Q (some (.int z)) p) : hP ro n d (2, 4, 1, 1, k31) 0 (lv_args 0 [.ref 34, .int x, .int m]) [] p Q := by
  subst hx
  subst hm
  refine hp_id (ls := [(0, .ref 34), (1, .int x), (2, .int m)]) ?_
  refine hp_s (pc' := 1) (st' := [.int 0]) rfl rfl rfl ?_
  refine hp_s (pc' := 2) (ls' := [(3, .int 0), (0, .ref 34), (1, .int x), (2, .int m)]) (st' := []) rfl rfl rfl ?_
  exact lp_31 (x := x) (m := m) (w := w) pre0 pre1 pre2 pre3 pre4 pre5 k0 n 0 (by decide) (by decide) (fun j hj => absurd hj (by rw [i_ofz]; exact Nat.not_lt_zero _))
