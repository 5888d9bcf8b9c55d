/-! contracts of methods, walked -/
theorem hSum_I {f : Nat → Int32} {t : Nat → Int} : ∀ {k : Nat}, k ≤ 100 → (∀ j, j < k → (f j).toInt = t j ∧ 0 ≤ t j ∧ t j ≤ 6) → (hSum f k).toInt = tS t k ∧ 0 ≤ tS t k ∧ tS t k ≤ 6 * k
  | 0, _, _ => ⟨by show (0 : Int32).toInt = 0; decide, Int.le_refl _, by show (0 : Int) ≤ 6 * ((0 : Nat) : Int); decide⟩
  | k + 1, hk, h => by
    obtain ⟨a, b, c⟩ := hSum_I (k := k) (by omega) (fun j hj => h j (by omega))
    obtain ⟨d, e, g⟩ := h k (by omega)
    have q := i_add (z := hSum f k + f k) rfl (show (hSum f k).toInt = (hSum f k).toInt from rfl) (show (f k).toInt = (f k).toInt from rfl)
    show (hSum f k + f k).toInt = tS t k + t k ∧ 0 ≤ tS t k + t k ∧ tS t k + t k ≤ 6 * ((k + 1 : Nat) : Int)
    push_cast
    omega
theorem drt_I {p : xH} (h : hEr p) {n : Nat} (hn : n < 7) : (drt p 17 19 n).toInt = tS (drs p 19 n) (dre p 17 n) ∧ 0 ≤ tS (drs p 19 n) (dre p 17 n) ∧ tS (drs p 19 n) (dre p 17 n) ≤ 24 := by
  have b := h.1 n
  have hd : dre p 17 n = (rI p 17 n).toInt.toNat := rfl
  obtain ⟨u, v, w⟩ := hSum_I (f := fun j => rI p 19 ((4 * (n : Int)).toNat + j)) (t := drs p 19 n) (k := dre p 17 n) (by omega) (fun j hj => ⟨by show (rI p 19 _).toInt = (rI p 19 _).toInt; congr 2, by have := (hEr_t h hn j hj).1; omega, (hEr_t h hn j hj).2⟩)
  exact ⟨u, v, by omega⟩
theorem dCt_I {p : xH} (h : hEr p) {n : Nat} (hn : n < 7) {Sh : Int → Int → Prop} : (dCt (drt p 17 19 n) (dK Sh (drs p 18 n) (drs p 19 n) (dre p 17 n))).toInt = dcI (tS (drs p 19 n) (dre p 17 n)) (dK Sh (drs p 18 n) (drs p 19 n) (dre p 17 n)) := by
  obtain ⟨a, b, c⟩ := drt_I h hn
  cases hq : dK Sh (drs p 18 n) (drs p 19 n) (dre p 17 n) with
  | none => show (30 : Int32).toInt = 30; decide
  | some q =>
    have i1 := dK_inv (hEr_s h n) (hEr_t h hn) (Nat.le_refl _) hq
    have e := Int32.toInt_ofInt_of_le (n := q.2.1) (by have := i1.1; omega) (by have := i1.2.1; omega)
    have i2 := i1.2.1
    have i3 := i1.1
    have e2 := i_sub (z := Int32.ofInt q.2.1 - drt p 17 19 n) rfl e a
    show (Int32.ofInt q.2.1 - drt p 17 19 n).toInt = q.2.1 - tS (drs p 19 n) (dre p 17 n)
    omega
theorem hEs_of {p : xH} (h : hEr p) {S : Nat} (hS : S ≤ 7) : hEs S (dre p 17) (drs p 18) (drs p 19) := fun n hn => ⟨hEr_s h n, hEr_t h (by omega)⟩
theorem cR_b {A : Nat → Nat → Prop} {S : Nat} {e : Nat → Nat} {s t : Nat → Nat → Int} (h : hEs S e s t) {l : List Nat} : ∀ {m : Nat}, m ≤ S → 0 ≤ cR A S e s t l m ∧ cR A S e s t l m ≤ 30 * m
  | 0, _ => ⟨Int.le_refl _, by show (0 : Int) ≤ 30 * ((0 : Nat) : Int); decide⟩
  | m + 1, hm => by
    obtain ⟨a, b⟩ := cR_b (A := A) h (l := l) (m := m) (by omega)
    have c := cN_b (A := A) h (l := l) (n := m) (by omega)
    show 0 ≤ cR A S e s t l m + (if m ∈ l then 0 else cN A S e s t l m) ∧ cR A S e s t l m + (if m ∈ l then 0 else cN A S e s t l m) ≤ 30 * ((m + 1 : Nat) : Int)
    push_cast
    by_cases g : m ∈ l
    · rw [if_pos g]; omega
    · rw [if_neg g]; omega
theorem lp_37 {ro : List (List Int32)} {d : Nat} {Q : Option Value → xH → Prop} {p0 : xH} {S : Nat} {A : Nat → Nat → Prop} {l : List Nat} {a c0 : Int32} (g0 : (rI p0 13 7).toInt = (S : Int)) (hS7 : S ≤ 7) (hR : ∀ n, n < S → hLk A S n (rI p0 33 n)) (ha : ∀ j, j < 32 → (bI a j = true ↔ j ∈ l)) (hWl : ∀ j, j ∈ l → j < S → hDb p0 j (dw (plX p0 A S l j))) (hE : hEr p0) (hc0 : 0 ≤ c0.toInt ∧ c0.toInt ≤ 300) (K : ∀ (z : Int32) (p2 : xH), hNt T_dx p0 p2 → (∀ (j : Nat) (r : dS) (T : Int32), j ∈ l → hDr p0 j r T → hDr p2 j r T) → z.toInt = c0.toInt + cR A S (dre p0 17) (drs p0 18) (drs p0 19) l S → Q (some (.int z)) p2) : ∀ (n : Nat) (k : Int32) (c : Int32) (p : xH), (0 ≤ k.toInt) → (k.toInt ≤ S) → (hNt T_dx p0 p) → (∀ (j : Nat) (r : dS) (T : Int32), j ∈ l → hDr p0 j r T → hDr p j r T) → (∀ j, j ∈ l → j < S → hDb p j (dw (plX p0 A S l j))) → (c.toInt = c0.toInt + cR A S (dre p0 17) (drs p0 18) (drs p0 19) l k.toInt.toNat) → hP ro n d (2, 5, 1, 1, k37) 5 [(4, .int k), (3, .int c), (0, .ref 34), (1, .int a), (2, .int c0)] [] p Q := by
  intro n
  induction n with
  | zero => intros; exact hp_0
  | succ n ih =>
    intro k c p hk1 hk2 hN hD hDbs hc
    have f17 : ∀ j, rI p 17 j = rI p0 17 j := fun j => hN.int (r := 17) rfl
    have f18 : ∀ j, rI p 18 j = rI p0 18 j := fun j => hN.int (r := 18) rfl
    have f19 : ∀ j, rI p 19 j = rI p0 19 j := fun j => hN.int (r := 19) rfl
    have hEp : hEr p := hEr_e hE f17 f18 f19
    have e13 : (rI p 13 7).toInt = (S : Int) := by rw [hN.int (r := 13) (k := 7) rfl]; exact g0
    obtain ⟨hc1, hc2⟩ := hc0
    have hcR := cR_b (A := A) (hEs_of hE hS7) (l := l) (m := k.toInt.toNat) (by omega)
    refine hp_s1 (pc' := 7) (st' := [.int k]) rfl rfl rfl ?_
    refine hp_s (pc' := 8) (st' := [.ref 34, .int k]) rfl rfl rfl ?_
    refine hp_getr (k := 0) (w := .ref 13) (pc' := 11) rfl rfl rfl rfl rfl ?_
    refine hp_get (k := 7) (pc' := 14) (v := (rI p 13 7)) rfl rfl rfl rfl rfl rfl ?_
    refine hp_ic (pc' := 17) (t := 42) (a := k.toInt) (b := (rI p 13 7).toInt) rfl rfl rfl rfl rfl (fun (h1 : (rI p 13 7).toInt ≤ k.toInt) => ?_) (fun (h2 : ¬ ((rI p 13 7).toInt ≤ k.toInt)) => ?_)
    ·
      refine hp_s (pc' := 43) (st' := [.int c]) rfl rfl rfl ?_
      refine hp_ri rfl rfl ?_
      exact K c p hN hD (by rw [hc, show k.toInt.toNat = S by omega])
    ·
      refine hp_s (pc' := 18) (st' := [.int a]) rfl rfl rfl ?_
      refine hp_s (pc' := 20) (st' := [.int k, .int a]) rfl rfl rfl ?_
      refine hp_z (pc' := 21) (e := a >>> (k &&& 31)) (st' := []) rfl rfl rfl ?_
      intro z1 hz1
      refine hp_s (pc' := 22) (st' := [.int 1, .int z1]) rfl rfl rfl ?_
      refine hp_z (pc' := 23) (e := z1 &&& 1) (st' := []) rfl rfl rfl ?_
      intro z2 hz2
      have hbit : z2.toInt = if bI a k.toInt.toNat then 1 else 0 := by rw [hz2, hz1]; exact bI_at _ (by omega) (by omega)
      refine hp_if (pc' := 26) (t := 36) (a := z2.toInt) rfl rfl rfl rfl (fun (h3 : z2.toInt ≠ 0) => ?_) (fun (h4 : ¬ (z2.toInt ≠ 0)) => ?_)
      ·
        refine hp_inc (L := fun z_ => [(4, .int z_), (3, .int c), (0, .ref 34), (1, .int a), (2, .int c0)]) (pc' := 39) rfl rfl rfl (fun _ => rfl) rfl ?_
        intro z3 hz3
        have ez3 := i_add hz3 (show k.toInt = k.toInt from rfl) (show (Int32.ofInt 1).toInt = 1 from by decide)
        refine hp_go (pc' := 5) rfl rfl rfl ?_
        have hk2_ : z3.toInt.toNat = k.toInt.toNat + 1 := by omega
        have hil : k.toInt.toNat ∈ l := by
          cases hb : bI a k.toInt.toNat with
          | true => exact (ha _ (by omega)).mp hb
          | false => rw [hb, if_neg (by decide)] at hbit; omega
        refine ih z3 c p (by omega) (by omega) hN hD hDbs ?_
        rw [hk2_, hc]
        show _ = c0.toInt + (cR A S (dre p0 17) (drs p0 18) (drs p0 19) l k.toInt.toNat + if k.toInt.toNat ∈ l then 0 else _)
        rw [if_pos hil]; omega
      ·
        have t1 : hLk A S k.toInt.toNat (rI p 33 k.toInt.toNat) := by rw [hN.int (r := 33) rfl]; exact hR _ (by omega)
        have t2 : ∀ j, j ∈ l → j < S → hDb p j (dw (plX p0 A S l j)) := hDbs
        have t3 := hEp.1 k.toInt.toNat
        have t4 := hEr_s hEp k.toInt.toNat
        have t5 := hEr_t hEp (n := k.toInt.toNat) (by omega)
        refine hp_s (pc' := 27) (st' := [.int c]) rfl rfl rfl ?_
        refine hp_s (pc' := 28) (st' := [.ref 34, .int c]) rfl rfl rfl ?_
        refine hp_s (pc' := 30) (st' := [.int k, .ref 34, .int c]) rfl rfl rfl ?_
        refine hp_s (pc' := 31) (st' := [.int a, .int k, .ref 34, .int c]) rfl rfl rfl ?_
        refine hp_cv (r := 34) (o := 2) (kd := 1) (as := [.int k, .int a]) (rest := [.int c]) (pc' := 34) rfl rfl rfl rfl rfl rfl rfl rfl rfl (fun d1 => ?_)
        refine s_takeTurn S A (plX p0 A S l) l (xi := k.toInt) rfl (ai := a.toInt) rfl (by first | assumption | omega) (by first | assumption | omega) (by first | assumption | omega) (by first | assumption | omega) (by first | assumption | omega) (by first | assumption | omega) (by first | assumption | omega) (by first | assumption | omega) (by first | assumption | omega) (by first | assumption | omega) ?_
        intro y1 p1 h5 h6 h7 h8
        have hnl : k.toInt.toNat ∉ l := fun g => by rw [(ha k.toInt.toNat (by omega)).mpr g, if_pos rfl] at hbit; omega
        have hzc : y1.toInt = cN A S (dre p0 17) (drs p0 18) (drs p0 19) l k.toInt.toNat := by
          rw [h8, dCt_I hEp (by omega), dre_e f17, drs_e f18, drs_e f19]
          rfl
        have hcb := cN_b (A := A) (hEs_of hE hS7) (l := l) (n := k.toInt.toNat) (by omega)
        refine hp_id (st := [.int y1, .int c]) ?_
        refine hp_z (pc' := 35) (e := c + y1) (st' := []) rfl rfl rfl ?_
        intro z4 hz4
        have ez4 := i_add hz4 (show c.toInt = c.toInt from rfl) (show y1.toInt = y1.toInt from rfl)
        refine hp_s (pc' := 36) (ls' := [(3, .int z4), (4, .int k), (0, .ref 34), (1, .int a), (2, .int c0)]) (st' := []) rfl rfl rfl ?_
        refine hp_inc (L := fun z_ => [(4, .int z_), (3, .int z4), (0, .ref 34), (1, .int a), (2, .int c0)]) (pc' := 39) rfl rfl rfl (fun _ => rfl) rfl ?_
        intro z5 hz5
        have ez5 := i_add hz5 (show k.toInt = k.toInt from rfl) (show (Int32.ofInt 1).toInt = 1 from by decide)
        refine hp_go (pc' := 5) rfl rfl rfl ?_
        have hk2_ : z5.toInt.toNat = k.toInt.toNat + 1 := by omega
        refine ih z5 z4 p1 (by omega) (by omega) (hN.trans h5) (fun j r T hj g => hDr_ot h6 (fun e => hnl (by rw [← e]; exact hj)) (hD j r T hj g)) (fun j hj hS u hu i hi => by rw [(h6 j (fun e => hnl (by rw [← e]; exact hj))).1 u hu]; exact hDbs j hj hS u hu i hi) ?_
        rw [hk2_]
        show _ = c0.toInt + (cR A S (dre p0 17) (drs p0 18) (drs p0 19) l k.toInt.toNat + if k.toInt.toNat ∈ l then 0 else cN A S (dre p0 17) (drs p0 18) (drs p0 19) l k.toInt.toNat)
        rw [if_neg hnl]; omega
theorem s_leastToCome {ro : List (List Int32)} {n d : Nat} {p : xH} {Q : Option Value → xH → Prop} (S : Nat) (A : Nat → Nat → Prop) (l : List Nat) {a : Int32} {ai : Int} {c : Int32} {ci : Int} (ha : a.toInt = ai) (hc : c.toInt = ci) (pre0 : (rI p 13 7).toInt = (S : Int)) (pre1 : S ≤ 7) (pre2 : ∀ n, n < S → hLk A S n (rI p 33 n)) (pre3 : ∀ j, j < 32 → (bI a j = true ↔ j ∈ l)) (pre4 : ∀ j, j ∈ l → j < S → hDb p j (dw (plX p A S l j))) (pre5 : hEr p) (pre6 : 0 ≤ ci ∧ ci ≤ 300) (k0 : ∀ z : Int32, ∀ p2 : xH, (hNt T_dx p p2) → (∀ (j : Nat) (r : dS) (T : Int32), j ∈ l → hDr p j r T → hDr p2 j r T) → (z.toInt = ci + cR A S (dre p 17) (drs p 18) (drs p 19) l S) → Q (some (.int z)) p2) : hP ro n d (2, 5, 1, 1, k37) 0 (lv_args 0 [.ref 34, .int a, .int c]) [] p Q := by
  subst ha
  subst hc
  refine hp_id (ls := [(0, .ref 34), (1, .int a), (2, .int c)]) ?_
  refine hp_s (pc' := 1) (st' := [.int c]) rfl rfl rfl ?_
  refine hp_s (pc' := 2) (ls' := [(3, .int c), (0, .ref 34), (1, .int a), (2, .int c)]) (st' := []) rfl rfl rfl ?_
  refine hp_s (pc' := 3) (st' := [.int 0]) rfl rfl rfl ?_
  refine hp_s (pc' := 5) (ls' := [(4, .int 0), (3, .int c), (0, .ref 34), (1, .int a), (2, .int c)]) (st' := []) rfl rfl rfl ?_
  exact lp_37 (p0 := p) (S := S) (A := A) (l := l) (a := a) (c0 := c) pre0 pre1 pre2 pre3 pre4 pre5 pre6 (fun z p2 h1 h2 h3 => k0 z p2 h1 h2 h3) n 0 c p (by decide) (by have h00 : (0 : Int32).toInt = 0 := (by decide); omega) (hNt.refl _ _) (fun _ _ _ _ g => g) pre4 (by rw [i_ofz]; exact (Int.add_zero _).symm)
abbrev T_ko : List (Nat × Nat) := [(34, 9), (41, 9999)]
theorem lp_38 {ro : List (List Int32)} {d : Nat} {Q : Option Value → xH → Prop} {p0 : xH} {c : Int32} (g0 : 0 ≤ (rI p0 13 7).toInt) (g1 : (rI p0 13 7).toInt ≤ 7) (K : ∀ p2 : xH, hNt T_ko p0 p2 → (∀ j, j < (rI p0 13 7).toInt.toNat → rI p2 41 j = rI p0 40 j) → rI p2 34 9 = c → Q none p2) : ∀ (n : Nat) (k : Int32) (p : xH), (0 ≤ k.toInt) → (k.toInt ≤ (rI p0 13 7).toInt) → (hNt T_ko p0 p) → (∀ j, j < k.toInt.toNat → rI p 41 j = rI p0 40 j) → (rI p 34 9 = c) → hP ro n d (2, 3, 1, 0, k38) 16 [(2, .int k), (0, .ref 34), (1, .int c)] [] p Q := by
  intro n
  induction n with
  | zero => intros; exact hp_0
  | succ n ih =>
    intro k p hk1 hk2 hN hr h9
    have t7 : (rI p 13 7).toInt = (rI p0 13 7).toInt := by rw [hN.int (r := 13) (k := 7) rfl]
    refine hp_s1 (pc' := 17) (st' := [.int k]) rfl rfl rfl ?_
    refine hp_s (pc' := 18) (st' := [.ref 34, .int k]) rfl rfl rfl ?_
    refine hp_getr (k := 0) (w := .ref 13) (pc' := 21) rfl rfl rfl rfl rfl ?_
    refine hp_get (k := 7) (pc' := 24) (v := (rI p 13 7)) rfl rfl rfl rfl rfl rfl ?_
    refine hp_ic (pc' := 27) (t := 45) (a := k.toInt) (b := (rI p 13 7).toInt) rfl rfl rfl rfl rfl (fun (h1 : (rI p 13 7).toInt ≤ k.toInt) => ?_) (fun (h2 : ¬ ((rI p 13 7).toInt ≤ k.toInt)) => ?_)
    ·
      refine hp_rv rfl rfl ?_
      exact K p hN (fun j hj => hr j (by omega)) h9
    ·
      refine hp_s (pc' := 28) (st' := [.ref 34]) rfl rfl rfl ?_
      refine hp_getr (k := 8) (w := .ref 41) (pc' := 31) rfl rfl rfl rfl rfl ?_
      refine hp_s (pc' := 32) (st' := [.int k, .ref 41]) rfl rfl rfl ?_
      refine hp_s (pc' := 33) (st' := [.ref 34, .int k, .ref 41]) rfl rfl rfl ?_
      refine hp_getr (k := 7) (w := .ref 40) (pc' := 36) rfl rfl rfl rfl rfl ?_
      refine hp_s (pc' := 37) (st' := [.int k, .ref 40, .int k, .ref 41]) rfl rfl rfl ?_
      refine hp_ld (t := 100) (v := (rI p 40 k.toInt.toNat)) rfl (.inl rfl) rfl rfl rfl ?_
      intro (g1a : 0 ≤ k.toInt) (g1b : k.toInt < 7)
      refine hp_st (t := 100) rfl (.inl rfl) rfl rfl ?_
      intro p1 wp1 (p1a : 0 ≤ k.toInt) (p1b : k.toInt < 7) ep1
      refine hp_inc (L := fun z_ => [(2, .int z_), (0, .ref 34), (1, .int c)]) (pc' := 42) rfl rfl rfl (fun _ => rfl) rfl ?_
      intro z1 hz1
      have ez1 := i_add hz1 (show k.toInt = k.toInt from rfl) (show (Int32.ofInt 1).toInt = 1 from by decide)
      refine hp_go (pc' := 16) rfl rfl rfl ?_
      refine ih z1 p1 (by omega) (by omega) (by rw [ep1]; exact (hNt.w hN rfl)) (fun j hj => ?_) (by rw [ep1, rI_o (by decide)]; exact h9)
      by_cases g : j = k.toInt.toNat
      · rw [g, ep1, rI_eq wp1 (by show _ < 7; omega)]; exact hN.int (r := 40) rfl
      · rw [ep1, rI_ne (fun _ => g)]; exact hr j (by omega)
theorem s_keepOrder {ro : List (List Int32)} {n d : Nat} {p : xH} {Q : Option Value → xH → Prop} {c : Int32} {ci : Int} (hc : c.toInt = ci) (pre0 : 0 ≤ (rI p 13 7).toInt) (pre1 : (rI p 13 7).toInt ≤ 7) (k0 : ((rI p 34 9).toInt ≤ ci) → Q none p) (k1 : ∀ p2 : xH, (hNt T_ko p p2) → (ci < (rI p 34 9).toInt) → (rI p2 34 9 = c) → (∀ j, j < (rI p 13 7).toInt.toNat → rI p2 41 j = rI p 40 j) → Q none p2) : hP ro n d (2, 3, 1, 0, k38) 0 (lv_args 0 [.ref 34, .int c]) [] p Q := by
  subst hc
  refine hp_id (ls := [(0, .ref 34), (1, .int c)]) ?_
  refine hp_s (pc' := 1) (st' := [.int c]) rfl rfl rfl ?_
  refine hp_s (pc' := 2) (st' := [.ref 34, .int c]) rfl rfl rfl ?_
  refine hp_get (k := 9) (pc' := 5) (v := (rI p 34 9)) rfl rfl rfl rfl rfl rfl ?_
  refine hp_ic (pc' := 8) (t := 9) (a := c.toInt) (b := (rI p 34 9).toInt) rfl rfl rfl rfl rfl (fun (h1 : c.toInt < (rI p 34 9).toInt) => ?_) (fun (h2 : ¬ (c.toInt < (rI p 34 9).toInt)) => ?_)
  ·
    refine hp_s (pc' := 10) (st' := [.ref 34]) rfl rfl rfl ?_
    refine hp_s (pc' := 11) (st' := [.int c, .ref 34]) rfl rfl rfl ?_
    refine hp_put (k := 9) (pc' := 14) rfl rfl rfl rfl rfl ?_
    intro p1 wp1 ep1
    refine hp_s (pc' := 15) (st' := [.int 0]) rfl rfl rfl ?_
    refine hp_s (pc' := 16) (ls' := [(2, .int 0), (0, .ref 34), (1, .int c)]) (st' := []) rfl rfl rfl ?_
    exact lp_38 (p0 := p) (c := c) pre0 pre1 (fun p2 u1 u2 u3 => k1 p2 u1 (by omega) u3 u2) n 0 p1 (by decide) (by have h00 : (0 : Int32).toInt = 0 := (by decide); omega) (by rw [ep1]; exact (hNt.w (hNt.refl _ _) rfl)) (fun j hj => absurd hj (by rw [i_ofz]; exact Nat.not_lt_zero _)) (by rw [ep1, rI_eq wp1 (by decide)])
  ·
    refine hp_rv rfl rfl ?_
    first | (exact k0 (by first | assumption | omega)) | (exact k1 _ (by first | assumption | omega) (by first | assumption | omega) (by first | assumption | omega) (by first | assumption | omega)) | (exfalso; omega)
