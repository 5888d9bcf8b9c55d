/-! contracts of methods, walked -/
def hBt (P : Nat → Prop) (z : Int32) : Prop := ∀ j, j < 32 → (bI z j = true ↔ P j)
theorem hBt_one {P P' : Nat → Prop} {z z' : Int32} (h : hBt P z) (g : hBt P' z') (e : ∀ j, P j ↔ P' j) : z = z' := bI_ext (fun j hj => bI_iff ((h j hj).trans ((e j).trans (g j hj).symm)))
theorem hBt_e {P P' : Nat → Prop} {z : Int32} (e : ∀ j, P j ↔ P' j) (h : hBt P z) : hBt P' z := fun j hj => (h j hj).trans (e j)
theorem bI_Bs {P : Nat → Prop} : ∀ {S : Nat} {r : Int32}, S ≤ 31 → hBs P S r → hBt (fun k => k < S ∧ P k) r
  | 0, r, _, h => fun k hk => by
    have h : r = 0 := h
    rw [h, bI_0]
    exact ⟨fun a => (by cases a), fun a => absurd a.1 (Nat.not_lt_zero _)⟩
  | S + 1, r, hS, ⟨q, h1, h2⟩ => fun k hk => by
    have ih := bI_Bs (by omega) h1 k hk
    dsimp only at ih ⊢
    rcases h2 with ⟨a, e⟩ | ⟨a, e⟩
    · rw [e, bI_or, Bool.or_eq_true, ih, bI_p (j := S) (Int32.toInt_ofInt_of_le (by omega) (by omega)) (by omega) hk, decide_eq_true_iff]
      constructor
      · rintro (⟨x, y⟩ | x)
        · exact ⟨by omega, y⟩
        · rw [x]; exact ⟨by omega, a⟩
      · rintro ⟨x, y⟩
        by_cases g : k = S
        · exact Or.inr g
        · exact Or.inl ⟨by omega, y⟩
    · rw [e, ih]
      constructor
      · rintro ⟨x, y⟩; exact ⟨by omega, y⟩
      · rintro ⟨x, y⟩
        refine ⟨?_, y⟩
        rcases Nat.lt_or_ge k S with g | g
        · exact g
        · rw [show k = S by omega] at y; exact absurd y a
theorem ev_bt : ∀ s : Nat, s < 8 → ∀ k : Nat, k < 32 → bI (((1 : Int32) <<< (Int32.ofNat s &&& 31)) - 1) k = decide (k < s) := by decide +kernel
theorem evb_k {q z : Int32} (h0 : 0 ≤ q.toInt) (h7 : q.toInt ≤ 7) (e : z = ((1 : Int32) <<< (q &&& 31)) - 1) {k : Nat} (hk : k < 32) : bI z k = true ↔ k < q.toInt.toNat := by
  have eq := i_k (q := q) (k := q.toInt.toNat) (by omega)
  have := ev_bt q.toInt.toNat (by omega) k hk
  rw [← eq] at this
  rw [e, this, decide_eq_true_iff]
def Sa (M : Nat → Prop) (C : Nat → Nat → Prop) (k j : Nat) : Prop := ∃ n, n < k ∧ M n ∧ C j n
theorem Sa_y {M : Nat → Prop} {C : Nat → Nat → Prop} {k j : Nat} (h : M k) : Sa M C (k + 1) j ↔ Sa M C k j ∨ C j k :=
  ⟨fun ⟨n, a, b, c⟩ => by
    by_cases g : n = k
    · rw [g] at c; exact Or.inr c
    · exact Or.inl ⟨n, by omega, b, c⟩, fun g => g.elim (fun ⟨n, a, b, c⟩ => ⟨n, by omega, b, c⟩) (fun c => ⟨k, by omega, h, c⟩)⟩
theorem Sa_n {M : Nat → Prop} {C : Nat → Nat → Prop} {k j : Nat} (h : ¬ M k) : Sa M C (k + 1) j ↔ Sa M C k j :=
  ⟨fun ⟨n, a, b, c⟩ => by
    by_cases g : n = k
    · rw [g] at b; exact absurd b h
    · exact ⟨n, by omega, b, c⟩, fun ⟨n, a, b, c⟩ => ⟨n, by omega, b, c⟩⟩
theorem go_y {M : Nat → Prop} {C : Nat → Nat → Prop} {S k : Nat} {b z : Int32} (hS : S ≤ 31) (hA : hBt (fun j => j < S ∧ Sa M C k j) b) (hM : M k) (hz : hBs (fun j => C j k) S z) : hBt (fun j => j < S ∧ Sa M C (k + 1) j) (b ||| z) := fun j hj => by
  have q := bI_Bs hS hz j hj
  have q2 := hA j hj
  dsimp only at q q2 ⊢
  rw [bI_or, Bool.or_eq_true, q, q2, Sa_y hM]
  exact ⟨fun g => g.elim (fun ⟨a, c⟩ => ⟨a, Or.inl c⟩) (fun ⟨a, c⟩ => ⟨a, Or.inr c⟩), fun ⟨a, g⟩ => g.elim (fun c => Or.inl ⟨a, c⟩) (fun c => Or.inr ⟨a, c⟩)⟩
theorem go_n {M : Nat → Prop} {C : Nat → Nat → Prop} {S k : Nat} {b : Int32} (hA : hBt (fun j => j < S ∧ Sa M C k j) b) (hM : ¬ M k) : hBt (fun j => j < S ∧ Sa M C (k + 1) j) b := hBt_e (fun j => by rw [Sa_n hM]) hA
theorem go_0 {M : Nat → Prop} {C : Nat → Nat → Prop} {S : Nat} : hBt (fun j => j < S ∧ Sa M C 0 j) 0 := fun j hj => by
  rw [bI_0]
  exact ⟨fun a => (by cases a), fun ⟨_, n, a, _⟩ => absurd a (Nat.not_lt_zero _)⟩
theorem go_e {M : Nat → Prop} {C : Nat → Nat → Prop} {S k : Nat} {b v q : Int32} (h0 : 0 ≤ q.toInt) (h7 : q.toInt ≤ 7) (hq : q.toInt.toNat = S) (hA : hBt (fun j => j < S ∧ Sa M C k j) b) (e : v = ((1 : Int32) <<< (q &&& 31)) - 1) : hBt (fun j => j < S ∧ ¬ Sa M C k j) (v &&& (b ^^^ (-1))) := fun j hj => by
  have q1 := evb_k h0 h7 e hj
  have q2 := hA j hj
  rw [hq] at q1
  dsimp only at q2 ⊢
  rw [bI_and, bI_no b hj, Bool.and_eq_true, q1, Bool.not_eq_true']
  refine and_congr_right (fun hjS => ?_)
  constructor
  · intro hb hs
    rw [q2.mpr ⟨hjS, hs⟩] at hb; cases hb
  · intro hs
    cases hb : bI b j with
    | false => rfl
    | true => exact absurd (q2.mp hb).2 hs
theorem gm_0 {M : Nat → Prop} {C : Nat → Nat → Prop} {S : Nat} {v q : Int32} (h0 : 0 ≤ q.toInt) (h7 : q.toInt ≤ 7) (hq : q.toInt.toNat = S) (e : v = ((1 : Int32) <<< (q &&& 31)) - 1) : hBt (fun j => j < S ∧ ¬ Sa M C 0 j) v := fun j hj => by
  have q1 := evb_k h0 h7 e hj
  rw [hq] at q1
  dsimp only
  rw [q1]
  exact ⟨fun a => ⟨a, fun ⟨n, b, _⟩ => absurd b (Nat.not_lt_zero _)⟩, fun a => a.1⟩
theorem gm_y {M : Nat → Prop} {C : Nat → Nat → Prop} {S k : Nat} {v z : Int32} (hS : S ≤ 31) (hA : hBt (fun j => j < S ∧ ¬ Sa M C k j) v) (hM : M k) (hz : hBs (fun j => C j k) S z) : hBt (fun j => j < S ∧ ¬ Sa M C (k + 1) j) (v &&& (z ^^^ (-1))) := fun j hj => by
  have q := bI_Bs hS hz j hj
  have q2 := hA j hj
  dsimp only at q q2 ⊢
  rw [bI_and, bI_no z hj, Bool.and_eq_true, q2, Bool.not_eq_true', Sa_y hM]
  constructor
  · rintro ⟨⟨a, b⟩, c⟩
    refine ⟨a, fun g => g.elim b (fun g => ?_)⟩
    rw [q.mpr ⟨a, g⟩] at c; cases c
  · rintro ⟨a, b⟩
    refine ⟨⟨a, fun g => b (Or.inl g)⟩, ?_⟩
    cases hb : bI z j with
    | false => rfl
    | true => exact absurd (Or.inr (q.mp hb).2) b
theorem gm_n {M : Nat → Prop} {C : Nat → Nat → Prop} {S k : Nat} {v : Int32} (hA : hBt (fun j => j < S ∧ ¬ Sa M C k j) v) (hM : ¬ M k) : hBt (fun j => j < S ∧ ¬ Sa M C (k + 1) j) (v &&& (-1)) := by
  have e : v &&& (-1) = v := bI_ext (fun j hj => by rw [bI_and, bI_m1 hj, Bool.and_true])
  rw [e]
  exact hBt_e (fun j => by rw [Sa_n hM]) hA
/-- one lived on, as another is like him -/
def Dl (P : Nat → Nat → Prop) (S : Nat) (v : Int32) (j : Nat) : Prop := bI v j = true ∧ ∃ k, k < S ∧ j ≠ k ∧ P j k ∧ bI v k = false
theorem Dl_e {P P' : Nat → Nat → Prop} {S : Nat} {v : Int32} (h : ∀ x y, x < S → y < S → (P x y ↔ P' x y)) {j : Nat} : j < S ∧ Dl P S v j ↔ j < S ∧ Dl P' S v j :=
  ⟨fun ⟨a, b, k, c, d, e, f⟩ => ⟨a, b, k, c, d, (h j k a c).mp e, f⟩, fun ⟨a, b, k, c, d, e, f⟩ => ⟨a, b, k, c, d, (h j k a c).mpr e, f⟩⟩
theorem ld_iff {P : Nat → Nat → Prop} {S n : Nat} {r v : Int32} (hS : S ≤ 32) (hr : hLk P S n r) : r &&& (v ^^^ (-1)) = 0 ↔ ¬ ∃ k, k < S ∧ n ≠ k ∧ P n k ∧ bI v k = false := by
  rw [bI_zero]
  constructor
  · rintro h ⟨k, k1, k2, k3, k4⟩
    have q := h k (by omega)
    rw [bI_and, bI_no v (by omega), k4, (hr k (by omega)).mpr ⟨k1, k2, k3⟩] at q
    cases q
  · intro h k hk
    rw [bI_and, bI_no v hk]
    cases hb : bI r k with
    | false => rfl
    | true =>
      obtain ⟨a, b, c⟩ := (hr k hk).mp hb
      cases hv : bI v k with
      | true => rfl
      | false => exact absurd ⟨k, a, b, c, hv⟩ h
theorem ld_0 {D : Nat → Prop} : hBt (fun j => j < 0 ∧ D j) 0 := fun j hj => by
  rw [bI_0]
  exact ⟨fun a => (by cases a), fun a => absurd a.1 (Nat.not_lt_zero _)⟩
theorem ld_n {D : Nat → Prop} {b : Int32} {x : Nat} (hB : hBt (fun j => j < x ∧ D j) b) (hn : ¬ D x) : hBt (fun j => j < x + 1 ∧ D j) b := hBt_e (fun j => ⟨fun ⟨a, c⟩ => ⟨by omega, c⟩, fun ⟨a, c⟩ => ⟨by
  rcases Nat.lt_or_ge j x with g | g
  · exact g
  · rw [show j = x by omega] at c; exact absurd c hn, c⟩⟩) hB
theorem ld_y {D : Nat → Prop} {b X : Int32} {x : Nat} (hB : hBt (fun j => j < x ∧ D j) b) (hX : X.toInt = x) (hx : x < 32) (hy : D x) : hBt (fun j => j < x + 1 ∧ D j) (b ||| ((1 : Int32) <<< (X &&& 31))) := fun j hj => by
  have q := hB j hj
  dsimp only at q ⊢
  rw [bI_or, Bool.or_eq_true, q, bI_p hX hx hj, decide_eq_true_iff]
  constructor
  · rintro (⟨a, c⟩ | a)
    · exact ⟨by omega, c⟩
    · rw [a]; exact ⟨by omega, hy⟩
  · rintro ⟨a, c⟩
    by_cases g : j = x
    · exact Or.inr g
    · exact Or.inl ⟨by omega, c⟩
def cnX (p : xH) (j n : Nat) : Prop := hCan (rI p 14 j) (rI p 2 j) (rI p 15 j) (rI p 6 n)
def cnM (p : xH) (j n : Nat) : Prop := hCan (rI p 67 j) (rI p 71 j) (rI p 67 (7 + j)) (rI p 89 (3 * n + 2))
def goX (p : xH) (m : Int) (j : Nat) : Prop := j < (rI p 13 7).toInt.toNat ∧ ¬ Sa (fun n => m ≤ (rI p 4 n).toInt) (cnX p) (rI p 1 5).toInt.toNat j
def goM (p : xH) (m : Int) (j : Nat) : Prop := j < (rI p 66 6).toInt.toNat ∧ ¬ Sa (fun n => m ≤ (rI p 89 (3 * n)).toInt) (cnM p) (rI p 66 34).toInt.toNat j
theorem lp_89 {ro : List (List Int32)} {d : Nat} {Q : Option Value → xH → Prop} {x : Int32} {p : xH} (g0 : 0 ≤ (rI p 13 7).toInt) (g1 : (rI p 13 7).toInt ≤ 7) (g2 : ∀ j, -1 ≤ (rI p 2 j).toInt) (g3 : 0 ≤ (rI p 1 5).toInt) (K : ∀ z : Int32, hBt (goX p x.toInt) z → Q (some (.int z)) p) : ∀ (n : Nat) (k : Int32) (b : Int32), (0 ≤ k.toInt) → (k.toInt ≤ (rI p 1 5).toInt) → (hBt (fun j => j < (rI p 13 7).toInt.toNat ∧ Sa (fun n => x.toInt ≤ (rI p 4 n).toInt) (cnX p) k.toInt.toNat j) b) → hP ro n d (7, 4, 1, 1, k89) 4 [(3, .int k), (2, .int b), (0, .ref 49), (1, .int x)] [] p Q := by
  intro n
  induction n with
  | zero => intros; exact hp_0
  | succ n ih =>
    intro k b hx1 hx2 hA
    refine hp_s1 (pc' := 5) (st' := [.int k]) rfl rfl rfl ?_
    refine hp_s (pc' := 6) (st' := [.ref 49, .int k]) rfl rfl rfl ?_
    refine hp_getr (k := 0) (w := .ref 1) (pc' := 9) rfl rfl rfl rfl rfl ?_
    refine hp_get (k := 5) (pc' := 12) (v := (rI p 1 5)) rfl rfl rfl rfl rfl rfl ?_
    refine hp_ic (pc' := 15) (t := 42) (a := k.toInt) (b := (rI p 1 5).toInt) rfl rfl rfl rfl rfl (fun (h1 : (rI p 1 5).toInt ≤ k.toInt) => ?_) (fun (h2 : ¬ ((rI p 1 5).toInt ≤ k.toInt)) => ?_)
    ·
      refine hp_s (pc' := 43) (st' := [.ref 49]) rfl rfl rfl ?_
      refine hp_getr (k := 1) (w := .ref 13) (pc' := 46) rfl rfl rfl rfl rfl ?_
      refine hp_cv (r := 13) (o := 1) (kd := 1) (as := []) (rest := []) (pc' := 49) rfl rfl rfl rfl rfl rfl rfl rfl rfl (fun d1 => ?_)
      refine s_everybody (by first | assumption | omega) (by first | assumption | omega) ?_
      intro y1 h3 h4
      skip
      refine hp_id (st := [.int y1]) ?_
      refine hp_s (pc' := 50) (st' := [.int b, .int y1]) rfl rfl rfl ?_
      refine hp_s (pc' := 51) (st' := [.int (-1), .int b, .int y1]) rfl rfl rfl ?_
      refine hp_z (pc' := 52) (e := b ^^^ (-1)) (st' := [.int y1]) rfl rfl rfl ?_
      intro z1 hz1
      refine hp_z (pc' := 53) (e := y1 &&& z1) (st' := []) rfl rfl rfl ?_
      intro z2 hz2
      refine hp_ri rfl rfl ?_
      refine K _ ?_
      rw [show k.toInt.toNat = (rI p 1 5).toInt.toNat by omega] at hA
      rw [hz2, hz1]
      exact go_e g0 g1 rfl hA h4
    ·
      refine hp_s (pc' := 16) (st' := [.ref 49]) rfl rfl rfl ?_
      refine hp_getr (k := 0) (w := .ref 1) (pc' := 19) rfl rfl rfl rfl rfl ?_
      refine hp_getr (k := 2) (w := .ref 4) (pc' := 22) rfl rfl rfl rfl rfl ?_
      refine hp_s (pc' := 23) (st' := [.int k, .ref 4]) rfl rfl rfl ?_
      refine hp_ld (t := 100) (v := (rI p 4 k.toInt.toNat)) rfl (.inl rfl) rfl rfl rfl ?_
      intro (g1a : 0 ≤ k.toInt) (g1b : k.toInt < 10)
      refine hp_s (pc' := 25) (st' := [.int x, .int (rI p 4 k.toInt.toNat)]) rfl rfl rfl ?_
      refine hp_ic (pc' := 28) (t := 36) (a := (rI p 4 k.toInt.toNat).toInt) (b := x.toInt) rfl rfl rfl rfl rfl (fun (h5 : (rI p 4 k.toInt.toNat).toInt < x.toInt) => ?_) (fun (h6 : ¬ ((rI p 4 k.toInt.toNat).toInt < x.toInt)) => ?_)
      ·
        refine hp_inc (L := fun z_ => [(3, .int z_), (2, .int b), (0, .ref 49), (1, .int x)]) (pc' := 39) rfl rfl rfl (fun _ => rfl) rfl ?_
        intro z3 hz3
        have ez3 := i_add hz3 (show k.toInt = k.toInt from rfl) (show (Int32.ofInt 1).toInt = 1 from by decide)
        refine hp_go (pc' := 4) rfl rfl rfl ?_
        refine ih z3 b (by omega) (by omega) ?_
        rw [show z3.toInt.toNat = k.toInt.toNat + 1 by omega]
        exact go_n hA (by show ¬ (_ ≤ _); omega)
      ·
        refine hp_s (pc' := 29) (st' := [.int b]) rfl rfl rfl ?_
        refine hp_s (pc' := 30) (st' := [.ref 49, .int b]) rfl rfl rfl ?_
        refine hp_s (pc' := 31) (st' := [.int k, .ref 49, .int b]) rfl rfl rfl ?_
        refine hp_cv (r := 49) (o := 7) (kd := 1) (as := [.int k]) (rest := [.int b]) (pc' := 34) rfl rfl rfl rfl rfl rfl rfl rfl rfl (fun d2 => ?_)
        refine s_whoCanBe (xi := k.toInt) rfl (by first | assumption | omega) (by first | assumption | omega) (by first | assumption | omega) ?_
        intro y2 h7
        skip
        refine hp_id (st := [.int y2, .int b]) ?_
        refine hp_z (pc' := 35) (e := b ||| y2) (st' := []) rfl rfl rfl ?_
        intro z4 hz4
        refine hp_s (pc' := 36) (ls' := [(2, .int z4), (3, .int k), (0, .ref 49), (1, .int x)]) (st' := []) rfl rfl rfl ?_
        refine hp_inc (L := fun z_ => [(3, .int z_), (2, .int z4), (0, .ref 49), (1, .int x)]) (pc' := 39) rfl rfl rfl (fun _ => rfl) rfl ?_
        intro z5 hz5
        have ez5 := i_add hz5 (show k.toInt = k.toInt from rfl) (show (Int32.ofInt 1).toInt = 1 from by decide)
        refine hp_go (pc' := 4) rfl rfl rfl ?_
        refine ih z5 z4 (by omega) (by omega) ?_
        rw [show z5.toInt.toNat = k.toInt.toNat + 1 by omega]
        rw [hz4]
        exact go_y (by omega) hA (by show _ ≤ _; omega) h7
theorem s_goneFrom {ro : List (List Int32)} {n d : Nat} {p : xH} {Q : Option Value → xH → Prop} {x : Int32} {xi : Int} (hx : x.toInt = xi) (pre0 : 0 ≤ (rI p 13 7).toInt) (pre1 : (rI p 13 7).toInt ≤ 7) (pre2 : ∀ j, -1 ≤ (rI p 2 j).toInt) (pre3 : 0 ≤ (rI p 1 5).toInt) (k0 : ∀ z : Int32, (hBt (goX p xi) z) → Q (some (.int z)) p) : hP ro n d (7, 4, 1, 1, k89) 0 (lv_args 0 [.ref 49, .int x]) [] p Q := by
  subst hx
  refine hp_id (ls := [(0, .ref 49), (1, .int x)]) ?_
  refine hp_s (pc' := 1) (st' := [.int 0]) rfl rfl rfl ?_
  refine hp_s (pc' := 2) (ls' := [(2, .int 0), (0, .ref 49), (1, .int x)]) (st' := []) rfl rfl rfl ?_
  refine hp_s (pc' := 3) (st' := [.int 0]) rfl rfl rfl ?_
  refine hp_s (pc' := 4) (ls' := [(3, .int 0), (2, .int 0), (0, .ref 49), (1, .int x)]) (st' := []) rfl rfl rfl ?_
  exact lp_89 (x := x) pre0 pre1 pre2 pre3 k0 n 0 0 (by decide) (by have h00 : (0 : Int32).toInt = 0 := (by decide); omega) (by rw [i_ofz]; exact go_0)
theorem lp_90 {ro : List (List Int32)} {d : Nat} {Q : Option Value → xH → Prop} {P : Nat → Nat → Prop} {S : Nat} {v : Int32} {p : xH} (hS : (rI p 13 7).toInt.toNat = S) (hS7 : S ≤ 7) (hr : 0 ≤ (S : Int)) (hR : ∀ n, n < S → hLk P S n (rI p 33 n)) (K : ∀ z : Int32, hBt (fun j => j < S ∧ Dl P S v j) z → Q (some (.int z)) p) : ∀ (n : Nat) (x : Int32) (b : Int32), (0 ≤ x.toInt) → (x.toInt ≤ S) → (hBt (fun j => j < x.toInt.toNat ∧ Dl P S v j) b) → hP ro n d (7, 4, 1, 1, k90) 11 [(3, .int x), (2, .int b), (0, .ref 49), (1, .int v)] [] p Q := by
  intro n
  induction n with
  | zero => intros; exact hp_0
  | succ n ih =>
    intro x b hx1 hx2 hB
    refine hp_s1 (pc' := 12) (st' := [.int x]) rfl rfl rfl ?_
    refine hp_s (pc' := 13) (st' := [.ref 49, .int x]) rfl rfl rfl ?_
    refine hp_getr (k := 1) (w := .ref 13) (pc' := 16) rfl rfl rfl rfl rfl ?_
    refine hp_get (k := 7) (pc' := 19) (v := (rI p 13 7)) rfl rfl rfl rfl rfl rfl ?_
    refine hp_ic (pc' := 22) (t := 59) (a := x.toInt) (b := (rI p 13 7).toInt) rfl rfl rfl rfl rfl (fun (h1 : (rI p 13 7).toInt ≤ x.toInt) => ?_) (fun (h2 : ¬ ((rI p 13 7).toInt ≤ x.toInt)) => ?_)
    ·
      refine hp_s (pc' := 60) (st' := [.int b]) rfl rfl rfl ?_
      refine hp_ri rfl rfl ?_
      refine K _ ?_
      rw [show x.toInt.toNat = S by omega] at hB
      exact hB
    ·
      refine hp_s (pc' := 23) (st' := [.int v]) rfl rfl rfl ?_
      refine hp_s (pc' := 24) (st' := [.int x, .int v]) rfl rfl rfl ?_
      refine hp_z (pc' := 25) (e := v >>> (x &&& 31)) (st' := []) rfl rfl rfl ?_
      intro z1 hz1
      refine hp_s (pc' := 26) (st' := [.int 1, .int z1]) rfl rfl rfl ?_
      refine hp_z (pc' := 27) (e := z1 &&& 1) (st' := []) rfl rfl rfl ?_
      intro z2 hz2
      have hbit : z2.toInt = if bI v x.toInt.toNat then 1 else 0 := by rw [hz2, hz1]; exact bI_at v (by omega) (by omega)
      refine hp_s (pc' := 28) (st' := [.int 1, .int z2]) rfl rfl rfl ?_
      refine hp_ic (pc' := 31) (t := 53) (a := z2.toInt) (b := 1) rfl rfl rfl rfl (by decide) (fun (h3 : z2.toInt ≠ 1) => ?_) (fun (h4 : ¬ (z2.toInt ≠ 1)) => ?_)
      ·
        refine hp_inc (L := fun z_ => [(3, .int z_), (2, .int b), (0, .ref 49), (1, .int v)]) (pc' := 56) rfl rfl rfl (fun _ => rfl) rfl ?_
        intro z3 hz3
        have ez3 := i_add hz3 (show x.toInt = x.toInt from rfl) (show (Int32.ofInt 1).toInt = 1 from by decide)
        refine hp_go (pc' := 11) rfl rfl rfl ?_
        refine ih z3 b (by omega) (by omega) ?_
        rw [show z3.toInt.toNat = x.toInt.toNat + 1 by omega]
        exact ld_n hB (fun g => by rw [g.1, if_pos rfl] at hbit; omega)
      ·
        refine hp_s (pc' := 32) (st' := [.ref 49]) rfl rfl rfl ?_
        refine hp_getr (k := 2) (w := .ref 32) (pc' := 35) rfl rfl rfl rfl rfl ?_
        refine hp_getr (k := 2) (w := .ref 33) (pc' := 38) rfl rfl rfl rfl rfl ?_
        refine hp_s (pc' := 39) (st' := [.int x, .ref 33]) rfl rfl rfl ?_
        refine hp_ld (t := 100) (v := (rI p 33 x.toInt.toNat)) rfl (.inl rfl) rfl rfl rfl ?_
        intro (g1a : 0 ≤ x.toInt) (g1b : x.toInt < 7)
        refine hp_s (pc' := 41) (st' := [.int v, .int (rI p 33 x.toInt.toNat)]) rfl rfl rfl ?_
        refine hp_s (pc' := 42) (st' := [.int (-1), .int v, .int (rI p 33 x.toInt.toNat)]) rfl rfl rfl ?_
        refine hp_z (pc' := 43) (e := v ^^^ (-1)) (st' := [.int (rI p 33 x.toInt.toNat)]) rfl rfl rfl ?_
        intro z4 hz4
        refine hp_z (pc' := 44) (e := (rI p 33 x.toInt.toNat) &&& z4) (st' := []) rfl rfl rfl ?_
        intro z5 hz5
        refine hp_if (pc' := 47) (t := 53) (a := z5.toInt) rfl rfl rfl rfl (fun (h5 : z5.toInt = 0) => ?_) (fun (h6 : ¬ (z5.toInt = 0)) => ?_)
        ·
          refine hp_inc (L := fun z_ => [(3, .int z_), (2, .int b), (0, .ref 49), (1, .int v)]) (pc' := 56) rfl rfl rfl (fun _ => rfl) rfl ?_
          intro z6 hz6
          have ez6 := i_add hz6 (show x.toInt = x.toInt from rfl) (show (Int32.ofInt 1).toInt = 1 from by decide)
          refine hp_go (pc' := 11) rfl rfl rfl ?_
          refine ih z6 b (by omega) (by omega) ?_
          rw [show z6.toInt.toNat = x.toInt.toNat + 1 by omega]
          exact ld_n hB (fun g => (ld_iff (by omega) (hR _ (by omega))).mp (by rw [← hz4, ← hz5]; exact i_z (by omega)) g.2)
        ·
          refine hp_s (pc' := 48) (st' := [.int b]) rfl rfl rfl ?_
          refine hp_s (pc' := 49) (st' := [.int 1, .int b]) rfl rfl rfl ?_
          refine hp_s (pc' := 50) (st' := [.int x, .int 1, .int b]) rfl rfl rfl ?_
          refine hp_z (pc' := 51) (e := 1 <<< (x &&& 31)) (st' := [.int b]) rfl rfl rfl ?_
          intro z7 hz7
          refine hp_z (pc' := 52) (e := b ||| z7) (st' := []) rfl rfl rfl ?_
          intro z8 hz8
          refine hp_s (pc' := 53) (ls' := [(2, .int z8), (3, .int x), (0, .ref 49), (1, .int v)]) (st' := []) rfl rfl rfl ?_
          refine hp_inc (L := fun z_ => [(3, .int z_), (2, .int z8), (0, .ref 49), (1, .int v)]) (pc' := 56) rfl rfl rfl (fun _ => rfl) rfl ?_
          intro z9 hz9
          have ez9 := i_add hz9 (show x.toInt = x.toInt from rfl) (show (Int32.ofInt 1).toInt = 1 from by decide)
          refine hp_go (pc' := 11) rfl rfl rfl ?_
          refine ih z9 z8 (by omega) (by omega) ?_
          rw [show z9.toInt.toNat = x.toInt.toNat + 1 by omega]
          have hne : ¬ (rI p 33 x.toInt.toNat &&& (v ^^^ (-1)) = 0) := fun e => by rw [← hz4, ← hz5] at e; exact absurd e (i_nz (by omega))
          rw [hz8, hz7]
          exact ld_y hB (by omega) (by omega) ⟨b_if (hbit.symm.trans (by omega)), Classical.not_not.mp (fun g => hne ((ld_iff (by omega) (hR _ (by omega))).mpr g))⟩
theorem s_livedOn {ro : List (List Int32)} {n d : Nat} {p : xH} {Q : Option Value → xH → Prop} (lo : Option (List yN)) {v : Int32} {vi : Int} (hv : v.toInt = vi) (pre0 : lXo p lo) (pre1 : ∀ j, -1 ≤ (rI p 2 j).toInt) (pre2 : 0 ≤ (rI p 13 7).toInt) (pre3 : (rI p 13 7).toInt ≤ 7) (pre4 : 0 ≤ (rI p 13 9).toInt) (pre5 : (rI p 13 9).toInt ≤ 63) (k0 : ∀ z : Int32, ∀ p2 : xH, (hNt T_lk p p2) → (hBt (fun j => j < (rI p 13 7).toInt.toNat ∧ Dl (Xal p lo 0) (rI p 13 7).toInt.toNat v j) z) → Q (some (.int z)) p2) : hP ro n d (7, 4, 1, 1, k90) 0 (lv_args 0 [.ref 49, .int v]) [] p Q := by
  subst hv
  refine hp_id (ls := [(0, .ref 49), (1, .int v)]) ?_
  refine hp_s (pc' := 1) (st' := [.ref 49]) rfl rfl rfl ?_
  refine hp_getr (k := 2) (w := .ref 32) (pc' := 4) rfl rfl rfl rfl rfl ?_
  refine hp_cv (r := 32) (o := 4) (kd := 1) (as := []) (rest := []) (pc' := 7) rfl rfl rfl rfl rfl rfl rfl rfl rfl (fun d1 => ?_)
  refine s_lookAround lo (by first | assumption | omega) (by first | assumption | omega) (by first | assumption | omega) (by first | assumption | omega) (by first | assumption | omega) (by first | assumption | omega) ?_
  intro p1 h1 h2
  skip
  refine hp_id (st := []) ?_
  refine hp_s (pc' := 8) (st' := [.int 0]) rfl rfl rfl ?_
  refine hp_s (pc' := 9) (ls' := [(2, .int 0), (0, .ref 49), (1, .int v)]) (st' := []) rfl rfl rfl ?_
  refine hp_s (pc' := 10) (st' := [.int 0]) rfl rfl rfl ?_
  refine hp_s (pc' := 11) (ls' := [(3, .int 0), (2, .int 0), (0, .ref 49), (1, .int v)]) (st' := []) rfl rfl rfl ?_
  exact lp_90 (P := Xal p lo 0) (S := (rI p 13 7).toInt.toNat) (v := v) (by rw [h1.int (r := 13) (k := 7) rfl]) (by omega) (by omega) h2 (fun z hz => k0 z _ h1 hz) n 0 0 (by decide) (by have h00 : (0 : Int32).toInt = 0 := (by decide); omega) (by rw [i_ofz]; exact ld_0)
theorem X_gone {ro : List (List Int32)} {n d : Nat} {p : xH} {Q : Option Value → xH → Prop} (lo : Option (List yN)) {x : Int32} {xi : Int} {y : Int32} {yi : Int} (hx : x.toInt = xi) (hy : y.toInt = yi) (pre0 : lXo p lo) (pre1 : ∀ j, -1 ≤ (rI p 2 j).toInt) (pre2 : 0 ≤ (rI p 13 7).toInt) (pre3 : (rI p 13 7).toInt ≤ 7) (pre4 : 0 ≤ (rI p 13 9).toInt) (pre5 : (rI p 13 9).toInt ≤ 63) (pre6 : 0 ≤ (rI p 1 5).toInt) (k0 : (¬ (0 ≤ xi ∧ xi < 30 ∧ 0 ≤ yi ∧ yi ≤ 1)) → Q (some (.int (-1))) p) (k1 : ∀ z : Int32, (0 ≤ xi ∧ xi < 30) → (yi = 0) → (hBt (goX p xi) z) → Q (some (.int z)) p) (k2 : ∀ z : Int32, ∀ p2 : xH, ∀ v : Int32, (hNt T_lk p p2) → (0 ≤ xi ∧ xi < 30) → (yi = 1) → (hBt (goX p xi) v) → (hBt (fun j => j < (rI p 13 7).toInt.toNat ∧ Dl (Xal p lo 0) (rI p 13 7).toInt.toNat v j) z) → Q (some (.int z)) p2) : hP ro n d (11, 4, 1, 1, k155) 0 (lv_args 0 [.ref 0, .int x, .int y]) [] p Q := by
  subst hx
  subst hy
  refine hp_id (ls := [(0, .ref 0), (1, .int x), (2, .int y)]) ?_
  refine hp_s (pc' := 1) (st' := [.int x]) rfl rfl rfl ?_
  refine hp_cs (kd := 0) (as := [.int x]) (rest := []) (pc' := 4) rfl rfl rfl rfl rfl rfl rfl (fun d1 => ?_)
  refine s_isMinute (xi := x.toInt) rfl ?_ ?_
  ·
    intro h1 h2
    refine hp_id (st := [.int 1]) ?_
    refine hp_go (pc' := 7) rfl rfl rfl ?_
    refine hp_s (pc' := 8) (st' := [.int y]) rfl rfl rfl ?_
    refine hp_if (pc' := 11) (t := 16) (a := y.toInt) rfl rfl rfl rfl (fun (h3 : y.toInt < 0) => ?_) (fun (h4 : ¬ (y.toInt < 0)) => ?_)
    ·
      refine hp_s (pc' := 17) (st' := [.int (-1)]) rfl rfl rfl ?_
      refine hp_ri rfl rfl ?_
      first | (exact k0 (by first | assumption | omega | exact ⟨by omega, by omega⟩)) | (exact k1 _ (by first | assumption | omega | exact ⟨by omega, by omega⟩) (by first | assumption | omega | exact ⟨by omega, by omega⟩) (by first | assumption | omega | exact ⟨by omega, by omega⟩)) | (exact k2 _ _ _ (by first | assumption | omega | exact ⟨by omega, by omega⟩) (by first | assumption | omega | exact ⟨by omega, by omega⟩) (by first | assumption | omega | exact ⟨by omega, by omega⟩) (by first | assumption | omega | exact ⟨by omega, by omega⟩) (by first | assumption | omega | exact ⟨by omega, by omega⟩)) | (exfalso; omega)
    ·
      refine hp_s (pc' := 12) (st' := [.int y]) rfl rfl rfl ?_
      refine hp_s (pc' := 13) (st' := [.int 1, .int y]) rfl rfl rfl ?_
      refine hp_ic (pc' := 16) (t := 18) (a := y.toInt) (b := 1) rfl rfl rfl rfl (by decide) (fun (h5 : y.toInt ≤ 1) => ?_) (fun (h6 : ¬ (y.toInt ≤ 1)) => ?_)
      ·
        refine hp_s (pc' := 19) (st' := [.ref 0]) rfl rfl rfl ?_
        refine hp_getr (k := 10) (w := .ref 49) (pc' := 22) rfl rfl rfl rfl rfl ?_
        refine hp_s (pc' := 23) (st' := [.int x, .ref 49]) rfl rfl rfl ?_
        refine hp_cv (r := 49) (o := 7) (kd := 1) (as := [.int x]) (rest := []) (pc' := 26) rfl rfl rfl rfl rfl rfl rfl rfl rfl (fun d2 => ?_)
        refine s_goneFrom (xi := x.toInt) rfl (by first | assumption | omega) (by first | assumption | omega) (by first | assumption | omega) (by first | assumption | omega) ?_
        intro y1 h7
        refine hp_id (st := [.int y1]) ?_
        refine hp_s (pc' := 27) (ls' := [(3, .int y1), (0, .ref 0), (1, .int x), (2, .int y)]) (st' := []) rfl rfl rfl ?_
        refine hp_s (pc' := 28) (st' := [.int y]) rfl rfl rfl ?_
        refine hp_if (pc' := 31) (t := 35) (a := y.toInt) rfl rfl rfl rfl (fun (h8 : y.toInt ≠ 0) => ?_) (fun (h9 : ¬ (y.toInt ≠ 0)) => ?_)
        ·
          refine hp_s (pc' := 36) (st' := [.ref 0]) rfl rfl rfl ?_
          refine hp_getr (k := 10) (w := .ref 49) (pc' := 39) rfl rfl rfl rfl rfl ?_
          refine hp_s (pc' := 40) (st' := [.int y1, .ref 49]) rfl rfl rfl ?_
          refine hp_cv (r := 49) (o := 7) (kd := 1) (as := [.int y1]) (rest := []) (pc' := 43) rfl rfl rfl rfl rfl rfl rfl rfl rfl (fun d3 => ?_)
          refine s_livedOn lo (vi := y1.toInt) rfl (by first | assumption | omega) (by first | assumption | omega) (by first | assumption | omega) (by first | assumption | omega) (by first | assumption | omega) (by first | assumption | omega) ?_
          intro y2 p1 h10 h11
          refine hp_id (st := [.int y2]) ?_
          refine hp_ri rfl rfl ?_
          first | (exact k0 (by first | assumption | omega | exact ⟨by omega, by omega⟩)) | (exact k1 _ (by first | assumption | omega | exact ⟨by omega, by omega⟩) (by first | assumption | omega | exact ⟨by omega, by omega⟩) (by first | assumption | omega | exact ⟨by omega, by omega⟩)) | (exact k2 _ _ _ (by first | assumption | omega | exact ⟨by omega, by omega⟩) (by first | assumption | omega | exact ⟨by omega, by omega⟩) (by first | assumption | omega | exact ⟨by omega, by omega⟩) (by first | assumption | omega | exact ⟨by omega, by omega⟩) (by first | assumption | omega | exact ⟨by omega, by omega⟩)) | (exfalso; omega)
        ·
          refine hp_s (pc' := 32) (st' := [.int y1]) rfl rfl rfl ?_
          refine hp_go (pc' := 43) rfl rfl rfl ?_
          refine hp_ri rfl rfl ?_
          first | (exact k0 (by first | assumption | omega | exact ⟨by omega, by omega⟩)) | (exact k1 _ (by first | assumption | omega | exact ⟨by omega, by omega⟩) (by first | assumption | omega | exact ⟨by omega, by omega⟩) (by first | assumption | omega | exact ⟨by omega, by omega⟩)) | (exact k2 _ _ _ (by first | assumption | omega | exact ⟨by omega, by omega⟩) (by first | assumption | omega | exact ⟨by omega, by omega⟩) (by first | assumption | omega | exact ⟨by omega, by omega⟩) (by first | assumption | omega | exact ⟨by omega, by omega⟩) (by first | assumption | omega | exact ⟨by omega, by omega⟩)) | (exfalso; omega)
      ·
        refine hp_s (pc' := 17) (st' := [.int (-1)]) rfl rfl rfl ?_
        refine hp_ri rfl rfl ?_
        first | (exact k0 (by first | assumption | omega | exact ⟨by omega, by omega⟩)) | (exact k1 _ (by first | assumption | omega | exact ⟨by omega, by omega⟩) (by first | assumption | omega | exact ⟨by omega, by omega⟩) (by first | assumption | omega | exact ⟨by omega, by omega⟩)) | (exact k2 _ _ _ (by first | assumption | omega | exact ⟨by omega, by omega⟩) (by first | assumption | omega | exact ⟨by omega, by omega⟩) (by first | assumption | omega | exact ⟨by omega, by omega⟩) (by first | assumption | omega | exact ⟨by omega, by omega⟩) (by first | assumption | omega | exact ⟨by omega, by omega⟩)) | (exfalso; omega)
  ·
    intro h12
    refine hp_id (st := [.int 0]) ?_
    refine hp_go (pc' := 16) rfl rfl rfl ?_
    refine hp_s (pc' := 17) (st' := [.int (-1)]) rfl rfl rfl ?_
    refine hp_ri rfl rfl ?_
    first | (exact k0 (by first | assumption | omega | exact ⟨by omega, by omega⟩)) | (exact k1 _ (by first | assumption | omega | exact ⟨by omega, by omega⟩) (by first | assumption | omega | exact ⟨by omega, by omega⟩) (by first | assumption | omega | exact ⟨by omega, by omega⟩)) | (exact k2 _ _ _ (by first | assumption | omega | exact ⟨by omega, by omega⟩) (by first | assumption | omega | exact ⟨by omega, by omega⟩) (by first | assumption | omega | exact ⟨by omega, by omega⟩) (by first | assumption | omega | exact ⟨by omega, by omega⟩) (by first | assumption | omega | exact ⟨by omega, by omega⟩)) | (exfalso; omega)
theorem lp_246b {ro : List (List Int32)} {d : Nat} {Q : Option Value → xH → Prop} {P : Nat → Nat → Prop} {S : Nat} {v t1 t2 : Int32} {p : xH} (hS : (rI p 66 6).toInt.toNat = S) (hS7 : S ≤ 7) (hR : ∀ n, n < S → hLk P S n (rI p 78 n)) (K : ∀ z : Int32, hBt (fun j => j < S ∧ Dl P S v j) z → Q (some (.int z)) p) : ∀ (n : Nat) (x : Int32) (b : Int32), (0 ≤ x.toInt) → (x.toInt ≤ S) → (hBt (fun j => j < x.toInt.toNat ∧ Dl P S v j) b) → hP ro n d (12, 6, 1, 1, k246) 95 [(5, .int x), (4, .int b), (3, .int v), (0, .ref 66), (1, .int t1), (2, .int t2)] [] p Q := by
  intro n
  induction n with
  | zero => intros; exact hp_0
  | succ n ih =>
    intro x b hx1 hx2 hB
    refine hp_s1 (pc' := 97) (st' := [.int x]) rfl rfl rfl ?_
    refine hp_s (pc' := 98) (st' := [.ref 66, .int x]) rfl rfl rfl ?_
    refine hp_get (k := 6) (pc' := 101) (v := (rI p 66 6)) rfl rfl rfl rfl rfl rfl ?_
    refine hp_ic (pc' := 104) (t := 146) (a := x.toInt) (b := (rI p 66 6).toInt) rfl rfl rfl rfl rfl (fun (h1 : (rI p 66 6).toInt ≤ x.toInt) => ?_) (fun (h2 : ¬ ((rI p 66 6).toInt ≤ x.toInt)) => ?_)
    ·
      refine hp_s (pc' := 148) (st' := [.int b]) rfl rfl rfl ?_
      refine hp_ri rfl rfl ?_
      refine K _ ?_
      rw [show x.toInt.toNat = S by omega] at hB
      exact hB
    ·
      refine hp_s (pc' := 106) (st' := [.int b]) rfl rfl rfl ?_
      refine hp_s (pc' := 107) (st' := [.int v, .int b]) rfl rfl rfl ?_
      refine hp_s (pc' := 109) (st' := [.int x, .int v, .int b]) rfl rfl rfl ?_
      refine hp_cs (kd := 0) (as := [.int v, .int x]) (rest := [.int b]) (pc' := 112) rfl rfl rfl rfl rfl rfl rfl (fun d1 => ?_)
      refine s_isIn (xi := v.toInt) rfl (yi := x.toInt) rfl ?_ ?_
      ·
        intro h3
        have hin : bI v x.toInt.toNat = true := b_if ((bI_at v (by omega) (by omega)).symm.trans h3)
        refine hp_id (st := [.int 1, .int b]) ?_
        refine hp_go (pc' := 115) rfl rfl rfl ?_
        refine hp_s (pc' := 116) (st' := [.ref 66, .int b]) rfl rfl rfl ?_
        refine hp_getr (k := 21) (w := .ref 78) (pc' := 119) rfl rfl rfl rfl rfl ?_
        refine hp_s (pc' := 121) (st' := [.int x, .ref 78, .int b]) rfl rfl rfl ?_
        refine hp_ld (t := 100) (v := (rI p 78 x.toInt.toNat)) rfl (.inl rfl) rfl rfl rfl ?_
        intro (g1a : 0 ≤ x.toInt) (g1b : x.toInt < 7)
        refine hp_s (pc' := 123) (st' := [.int v, .int (rI p 78 x.toInt.toNat), .int b]) rfl rfl rfl ?_
        refine hp_s (pc' := 124) (st' := [.int (-1), .int v, .int (rI p 78 x.toInt.toNat), .int b]) rfl rfl rfl ?_
        refine hp_z (pc' := 125) (e := v ^^^ (-1)) (st' := [.int (rI p 78 x.toInt.toNat), .int b]) rfl rfl rfl ?_
        intro z1 hz1
        refine hp_z (pc' := 126) (e := (rI p 78 x.toInt.toNat) &&& z1) (st' := [.int b]) rfl rfl rfl ?_
        intro z2 hz2
        refine hp_if (pc' := 129) (t := 136) (a := z2.toInt) rfl rfl rfl rfl (fun (h4 : z2.toInt = 0) => ?_) (fun (h5 : ¬ (z2.toInt = 0)) => ?_)
        ·
          refine hp_s (pc' := 137) (st' := [.int 0, .int b]) rfl rfl rfl ?_
          refine hp_z (pc' := 138) (e := b ||| 0) (st' := []) rfl rfl rfl ?_
          intro z3 hz3
          refine hp_s (pc' := 140) (ls' := [(4, .int z3), (5, .int x), (3, .int v), (0, .ref 66), (1, .int t1), (2, .int t2)]) (st' := []) rfl rfl rfl ?_
          refine hp_inc (L := fun z_ => [(5, .int z_), (4, .int z3), (3, .int v), (0, .ref 66), (1, .int t1), (2, .int t2)]) (pc' := 143) rfl rfl rfl (fun _ => rfl) rfl ?_
          intro z4 hz4
          have ez4 := i_add hz4 (show x.toInt = x.toInt from rfl) (show (Int32.ofInt 1).toInt = 1 from by decide)
          refine hp_go (pc' := 95) rfl rfl rfl ?_
          refine ih z4 z3 (by omega) (by omega) ?_
          rw [show z4.toInt.toNat = x.toInt.toNat + 1 by omega]
          rw [hz3, Int32.or_zero]
          exact ld_n hB (fun g => (ld_iff (by omega) (hR _ (by omega))).mp (by rw [← hz1, ← hz2]; exact i_z (by omega)) g.2)
        ·
          refine hp_s (pc' := 130) (st' := [.int 1, .int b]) rfl rfl rfl ?_
          refine hp_s (pc' := 132) (st' := [.int x, .int 1, .int b]) rfl rfl rfl ?_
          refine hp_z (pc' := 133) (e := 1 <<< (x &&& 31)) (st' := [.int b]) rfl rfl rfl ?_
          intro z5 hz5
          refine hp_go (pc' := 137) rfl rfl rfl ?_
          refine hp_z (pc' := 138) (e := b ||| z5) (st' := []) rfl rfl rfl ?_
          intro z6 hz6
          refine hp_s (pc' := 140) (ls' := [(4, .int z6), (5, .int x), (3, .int v), (0, .ref 66), (1, .int t1), (2, .int t2)]) (st' := []) rfl rfl rfl ?_
          refine hp_inc (L := fun z_ => [(5, .int z_), (4, .int z6), (3, .int v), (0, .ref 66), (1, .int t1), (2, .int t2)]) (pc' := 143) rfl rfl rfl (fun _ => rfl) rfl ?_
          intro z7 hz7
          have ez7 := i_add hz7 (show x.toInt = x.toInt from rfl) (show (Int32.ofInt 1).toInt = 1 from by decide)
          refine hp_go (pc' := 95) rfl rfl rfl ?_
          refine ih z7 z6 (by omega) (by omega) ?_
          rw [show z7.toInt.toNat = x.toInt.toNat + 1 by omega]
          have hne : ¬ (rI p 78 x.toInt.toNat &&& (v ^^^ (-1)) = 0) := fun e => by rw [← hz1, ← hz2] at e; exact absurd e (i_nz (by omega))
          rw [hz6, hz5]
          exact ld_y hB (by omega) (by omega) ⟨hin, Classical.not_not.mp (fun g => hne ((ld_iff (by omega) (hR _ (by omega))).mpr g))⟩
      ·
        intro h6
        have hin : bI v x.toInt.toNat = false := b_if0 (fun gz => h6 ((bI_at v (by omega) (by omega)).trans gz))
        refine hp_id (st := [.int 0, .int b]) ?_
        refine hp_go (pc' := 136) rfl rfl rfl ?_
        refine hp_s (pc' := 137) (st' := [.int 0, .int b]) rfl rfl rfl ?_
        refine hp_z (pc' := 138) (e := b ||| 0) (st' := []) rfl rfl rfl ?_
        intro z8 hz8
        refine hp_s (pc' := 140) (ls' := [(4, .int z8), (5, .int x), (3, .int v), (0, .ref 66), (1, .int t1), (2, .int t2)]) (st' := []) rfl rfl rfl ?_
        refine hp_inc (L := fun z_ => [(5, .int z_), (4, .int z8), (3, .int v), (0, .ref 66), (1, .int t1), (2, .int t2)]) (pc' := 143) rfl rfl rfl (fun _ => rfl) rfl ?_
        intro z9 hz9
        have ez9 := i_add hz9 (show x.toInt = x.toInt from rfl) (show (Int32.ofInt 1).toInt = 1 from by decide)
        refine hp_go (pc' := 95) rfl rfl rfl ?_
        refine ih z9 z8 (by omega) (by omega) ?_
        rw [show z9.toInt.toNat = x.toInt.toNat + 1 by omega]
        rw [hz8, Int32.or_zero]
        exact ld_n hB (fun g => by rw [g.1] at hin; cases hin)
theorem lp_246a {ro : List (List Int32)} {d : Nat} {Q : Option Value → xH → Prop} {lo : Option (List yN)} {x y : Int32} {p : xH} (pre0 : lMo p lo) (pre1 : ∀ j, 0 ≤ (rI p 67 j).toInt ∧ (rI p 67 j).toInt < 64) (pre2 : ∀ j, -1 ≤ (rI p 71 j).toInt ∧ (rI p 71 j).toInt < 6) (pre3 : 0 ≤ (rI p 66 6).toInt) (pre4 : (rI p 66 6).toInt ≤ 7) (pre5 : 0 ≤ (rI p 66 34).toInt) (pre6 : (rI p 66 34).toInt ≤ 10) (hy1 : 0 ≤ y.toInt) (hy2 : y.toInt ≤ 1) (K0 : ∀ z : Int32, y.toInt = 0 → hBt (goM p x.toInt) z → Q (some (.int z)) p) (K1 : ∀ (z : Int32) (p2 : xH) (v : Int32), hNt T_ml p p2 → y.toInt = 1 → hBt (goM p x.toInt) v → hBt (fun j => j < (rI p 66 6).toInt.toNat ∧ Dl (Mal p lo) (rI p 66 6).toInt.toNat v j) z → Q (some (.int z)) p2) : ∀ (n : Nat) (k : Int32) (v : Int32), (0 ≤ k.toInt) → (k.toInt ≤ (rI p 66 34).toInt) → (hBt (fun j => j < (rI p 66 6).toInt.toNat ∧ ¬ Sa (fun n => x.toInt ≤ (rI p 89 (3 * n)).toInt) (cnM p) k.toInt.toNat j) v) → hP ro n d (12, 6, 1, 1, k246) 36 [(4, .int k), (3, .int v), (0, .ref 66), (1, .int x), (2, .int y)] [] p Q := by
  intro n
  induction n with
  | zero => intros; exact hp_0
  | succ n ih =>
    intro k v hx1 hx2 hA
    refine hp_s1 (pc' := 38) (st' := [.int k]) rfl rfl rfl ?_
    refine hp_s (pc' := 39) (st' := [.ref 66, .int k]) rfl rfl rfl ?_
    refine hp_get (k := 34) (pc' := 42) (v := (rI p 66 34)) rfl rfl rfl rfl rfl rfl ?_
    refine hp_ic (pc' := 45) (t := 79) (a := k.toInt) (b := (rI p 66 34).toInt) rfl rfl rfl rfl rfl (fun (h1 : (rI p 66 34).toInt ≤ k.toInt) => ?_) (fun (h2 : ¬ ((rI p 66 34).toInt ≤ k.toInt)) => ?_)
    ·
      refine hp_s (pc' := 80) (st' := [.int y]) rfl rfl rfl ?_
      refine hp_if (pc' := 83) (t := 85) (a := y.toInt) rfl rfl rfl rfl (fun (h3 : y.toInt ≠ 0) => ?_) (fun (h4 : ¬ (y.toInt ≠ 0)) => ?_)
      ·
        refine hp_s (pc' := 86) (st' := [.ref 66]) rfl rfl rfl ?_
        refine hp_cv (r := 66) (o := 12) (kd := 1) (as := []) (rest := []) (pc' := 89) rfl rfl rfl rfl rfl rfl rfl rfl rfl (fun d1 => ?_)
        refine s_asksLikes lo (by first | assumption | omega) (by first | assumption | omega) (by first | assumption | omega) (by first | assumption | omega) (by first | assumption | omega) ?_
        intro p1 h5 h6
        skip
        refine hp_id (st := []) ?_
        refine hp_s (pc' := 90) (st' := [.int 0]) rfl rfl rfl ?_
        refine hp_s (pc' := 92) (ls' := [(4, .int 0), (3, .int v), (0, .ref 66), (1, .int x), (2, .int y)]) (st' := []) rfl rfl rfl ?_
        refine hp_s (pc' := 93) (st' := [.int 0]) rfl rfl rfl ?_
        refine hp_s (pc' := 95) (ls' := [(5, .int 0), (4, .int 0), (3, .int v), (0, .ref 66), (1, .int x), (2, .int y)]) (st' := []) rfl rfl rfl ?_
        rw [show k.toInt.toNat = (rI p 66 34).toInt.toNat by omega] at hA
        exact lp_246b (P := Mal p lo) (S := (rI p 66 6).toInt.toNat) (v := v) (t1 := x) (t2 := y) (by rw [h5.int (r := 66) (k := 6) rfl]) (by omega) h6 (fun z hz => K1 z _ v h5 (by omega) hA hz) n 0 0 (by decide) (by have h00 : (0 : Int32).toInt = 0 := (by decide); omega) (by rw [i_ofz]; exact ld_0)
      ·
        refine hp_s (pc' := 84) (st' := [.int v]) rfl rfl rfl ?_
        refine hp_ri rfl rfl ?_
        rw [show k.toInt.toNat = (rI p 66 34).toInt.toNat by omega] at hA
        exact K0 _ (by omega) hA
    ·
      refine hp_s (pc' := 46) (st' := [.int v]) rfl rfl rfl ?_
      refine hp_s (pc' := 47) (st' := [.ref 66, .int v]) rfl rfl rfl ?_
      refine hp_getr (k := 35) (w := .ref 89) (pc' := 50) rfl rfl rfl rfl rfl ?_
      refine hp_s (pc' := 51) (st' := [.int 3, .ref 89, .int v]) rfl rfl rfl ?_
      refine hp_s (pc' := 53) (st' := [.int k, .int 3, .ref 89, .int v]) rfl rfl rfl ?_
      refine hp_z (pc' := 54) (e := 3 * k) (st' := [.ref 89, .int v]) rfl rfl rfl ?_
      intro z1 hz1
      have ez1 := i_mul hz1 (show (3 : Int32).toInt = 3 from by decide) (show k.toInt = k.toInt from rfl)
      refine hp_ld (t := 100) (v := (rI p 89 z1.toInt.toNat)) rfl (.inl rfl) rfl rfl rfl ?_
      intro (g1a : 0 ≤ z1.toInt) (g1b : z1.toInt < 30)
      have q9 : (rI p 89 z1.toInt.toNat) = rI p 89 (3 * k.toInt.toNat) := by congr 1; omega
      refine hp_s (pc' := 56) (st' := [.int x, .int (rI p 89 z1.toInt.toNat), .int v]) rfl rfl rfl ?_
      refine hp_ic (pc' := 59) (t := 70) (a := (rI p 89 z1.toInt.toNat).toInt) (b := x.toInt) rfl rfl rfl rfl rfl (fun (h7 : (rI p 89 z1.toInt.toNat).toInt < x.toInt) => ?_) (fun (h8 : ¬ ((rI p 89 z1.toInt.toNat).toInt < x.toInt)) => ?_)
      ·
        refine hp_s (pc' := 71) (st' := [.int (-1), .int v]) rfl rfl rfl ?_
        refine hp_z (pc' := 72) (e := v &&& (-1)) (st' := []) rfl rfl rfl ?_
        intro z2 hz2
        refine hp_s (pc' := 73) (ls' := [(3, .int z2), (4, .int k), (0, .ref 66), (1, .int x), (2, .int y)]) (st' := []) rfl rfl rfl ?_
        refine hp_inc (L := fun z_ => [(4, .int z_), (3, .int z2), (0, .ref 66), (1, .int x), (2, .int y)]) (pc' := 76) rfl rfl rfl (fun _ => rfl) rfl ?_
        intro z3 hz3
        have ez3 := i_add hz3 (show k.toInt = k.toInt from rfl) (show (Int32.ofInt 1).toInt = 1 from by decide)
        refine hp_go (pc' := 36) rfl rfl rfl ?_
        refine ih z3 z2 (by omega) (by omega) ?_
        rw [show z3.toInt.toNat = k.toInt.toNat + 1 by omega]
        rw [hz2]
        exact gm_n hA (by show ¬ (_ ≤ _); rw [← q9]; omega)
      ·
        refine hp_s (pc' := 60) (st' := [.ref 66, .int v]) rfl rfl rfl ?_
        refine hp_s (pc' := 62) (st' := [.int k, .ref 66, .int v]) rfl rfl rfl ?_
        refine hp_cv (r := 66) (o := 12) (kd := 1) (as := [.int k]) (rest := [.int v]) (pc' := 65) rfl rfl rfl rfl rfl rfl rfl rfl rfl (fun d2 => ?_)
        refine s_whoIs (xi := k.toInt) rfl (by first | assumption | omega) (by first | assumption | omega) (by first | assumption | omega) (by first | assumption | omega) ?_
        intro y1 h9
        refine hp_id (st := [.int y1, .int v]) ?_
        refine hp_s (pc' := 66) (st' := [.int (-1), .int y1, .int v]) rfl rfl rfl ?_
        refine hp_z (pc' := 67) (e := y1 ^^^ (-1)) (st' := [.int v]) rfl rfl rfl ?_
        intro z4 hz4
        refine hp_go (pc' := 71) rfl rfl rfl ?_
        refine hp_z (pc' := 72) (e := v &&& z4) (st' := []) rfl rfl rfl ?_
        intro z5 hz5
        refine hp_s (pc' := 73) (ls' := [(3, .int z5), (4, .int k), (0, .ref 66), (1, .int x), (2, .int y)]) (st' := []) rfl rfl rfl ?_
        refine hp_inc (L := fun z_ => [(4, .int z_), (3, .int z5), (0, .ref 66), (1, .int x), (2, .int y)]) (pc' := 76) rfl rfl rfl (fun _ => rfl) rfl ?_
        intro z6 hz6
        have ez6 := i_add hz6 (show k.toInt = k.toInt from rfl) (show (Int32.ofInt 1).toInt = 1 from by decide)
        refine hp_go (pc' := 36) rfl rfl rfl ?_
        refine ih z6 z5 (by omega) (by omega) ?_
        rw [show z6.toInt.toNat = k.toInt.toNat + 1 by omega]
        rw [hz5, hz4]
        exact gm_y (by omega) hA (by show _ ≤ _; rw [← q9]; omega) h9
theorem M_gone {ro : List (List Int32)} {n d : Nat} {p : xH} {Q : Option Value → xH → Prop} (lo : Option (List yN)) {x : Int32} {xi : Int} {y : Int32} {yi : Int} (hx : x.toInt = xi) (hy : y.toInt = yi) (pre0 : lMo p lo) (pre1 : ∀ j, 0 ≤ (rI p 67 j).toInt ∧ (rI p 67 j).toInt < 64) (pre2 : ∀ j, -1 ≤ (rI p 71 j).toInt ∧ (rI p 71 j).toInt < 6) (pre3 : 0 ≤ (rI p 66 6).toInt) (pre4 : (rI p 66 6).toInt ≤ 7) (pre5 : 0 ≤ (rI p 66 34).toInt) (pre6 : (rI p 66 34).toInt ≤ 10) (k0 : (¬ (0 ≤ xi ∧ xi < 30 ∧ 0 ≤ yi ∧ yi ≤ 1)) → Q (some (.int (-1))) p) (k1 : ∀ z : Int32, (0 ≤ xi ∧ xi < 30) → (yi = 0) → (hBt (goM p xi) z) → Q (some (.int z)) p) (k2 : ∀ z : Int32, ∀ p2 : xH, ∀ v : Int32, (hNt T_ml p p2) → (0 ≤ xi ∧ xi < 30) → (yi = 1) → (hBt (goM p xi) v) → (hBt (fun j => j < (rI p 66 6).toInt.toNat ∧ Dl (Mal p lo) (rI p 66 6).toInt.toNat v j) z) → Q (some (.int z)) p2) : hP ro n d (12, 6, 1, 1, k246) 0 (lv_args 0 [.ref 66, .int x, .int y]) [] p Q := by
  subst hx
  subst hy
  refine hp_id (ls := [(0, .ref 66), (1, .int x), (2, .int y)]) ?_
  refine hp_s (pc' := 1) (st' := [.int x]) rfl rfl rfl ?_
  refine hp_i2l (pc' := 2) rfl rfl ?_
  intro z1 hz1 ez1
  refine hp_s (pc' := 3) (st' := [.long 0, .long z1]) rfl rfl rfl ?_
  refine hp_s (pc' := 6) (st' := [.long 29, .long 0, .long z1]) rfl rfl rfl ?_
  refine hp_cs (kd := 0) (as := [.long z1, .long 0, .long 29]) (rest := []) (pc' := 9) rfl rfl rfl rfl rfl rfl rfl (fun d1 => ?_)
  refine s_within (vi := x.toInt) ez1 (ai := 0) (by decide) (bi := 29) (by decide) ?_ ?_
  ·
    intro h1 h2
    refine hp_id (st := [.int 1]) ?_
    refine hp_go (pc' := 12) rfl rfl rfl ?_
    refine hp_s (pc' := 13) (st' := [.int y]) rfl rfl rfl ?_
    refine hp_i2l (pc' := 14) rfl rfl ?_
    intro z2 hz2 ez2
    refine hp_s (pc' := 15) (st' := [.long 0, .long z2]) rfl rfl rfl ?_
    refine hp_s (pc' := 16) (st' := [.long 1, .long 0, .long z2]) rfl rfl rfl ?_
    refine hp_cs (kd := 0) (as := [.long z2, .long 0, .long 1]) (rest := []) (pc' := 19) rfl rfl rfl rfl rfl rfl rfl (fun d2 => ?_)
    refine s_within (vi := y.toInt) ez2 (ai := 0) (by decide) (bi := 1) (by decide) ?_ ?_
    ·
      intro h3 h4
      refine hp_id (st := [.int 1]) ?_
      refine hp_go (pc' := 24) rfl rfl rfl ?_
      refine hp_s (pc' := 25) (st' := [.int 1]) rfl rfl rfl ?_
      refine hp_s (pc' := 26) (st' := [.ref 66, .int 1]) rfl rfl rfl ?_
      refine hp_get (k := 6) (pc' := 29) (v := (rI p 66 6)) rfl rfl rfl rfl rfl rfl ?_
      refine hp_z (pc' := 30) (e := 1 <<< ((rI p 66 6) &&& 31)) (st' := []) rfl rfl rfl ?_
      intro z3 hz3
      refine hp_s (pc' := 31) (st' := [.int 1, .int z3]) rfl rfl rfl ?_
      refine hp_z (pc' := 32) (e := z3 - 1) (st' := []) rfl rfl rfl ?_
      intro z4 hz4
      have ez4 := i_sub hz4 (show z3.toInt = z3.toInt from rfl) (show (1 : Int32).toInt = 1 from by decide)
      refine hp_s (pc' := 33) (ls' := [(3, .int z4), (0, .ref 66), (1, .int x), (2, .int y)]) (st' := []) rfl rfl rfl ?_
      refine hp_s (pc' := 34) (st' := [.int 0]) rfl rfl rfl ?_
      refine hp_s (pc' := 36) (ls' := [(4, .int 0), (3, .int z4), (0, .ref 66), (1, .int x), (2, .int y)]) (st' := []) rfl rfl rfl ?_
      exact lp_246a (x := x) (y := y) pre0 pre1 pre2 pre3 pre4 pre5 pre6 (by omega) (by omega) (fun z e hz => k1 z ⟨by omega, by omega⟩ e hz) (fun z p2 v nt e hv hz => k2 z p2 v nt ⟨by omega, by omega⟩ e hv hz) n 0 _ (by decide) (by have h00 : (0 : Int32).toInt = 0 := (by decide); omega) (by rw [i_ofz]; exact gm_0 pre3 pre4 rfl (by rw [hz4, hz3]))
    ·
      intro h5
      refine hp_id (st := [.int 0]) ?_
      refine hp_go (pc' := 22) rfl rfl rfl ?_
      refine hp_s (pc' := 23) (st' := [.int (-1)]) rfl rfl rfl ?_
      refine hp_ri rfl rfl ?_
      first | (exact k0 (by first | assumption | omega)) | (exact k1 _ (by first | assumption | omega) (by first | assumption | omega) (by first | assumption | omega)) | (exact k2 _ _ _ (by first | assumption | omega) (by first | assumption | omega) (by first | assumption | omega) (by first | assumption | omega) (by first | assumption | omega)) | (exfalso; omega)
  ·
    intro h6
    refine hp_id (st := [.int 0]) ?_
    refine hp_go (pc' := 22) rfl rfl rfl ?_
    refine hp_s (pc' := 23) (st' := [.int (-1)]) rfl rfl rfl ?_
    refine hp_ri rfl rfl ?_
    first | (exact k0 (by first | assumption | omega)) | (exact k1 _ (by first | assumption | omega) (by first | assumption | omega) (by first | assumption | omega)) | (exact k2 _ _ _ (by first | assumption | omega) (by first | assumption | omega) (by first | assumption | omega) (by first | assumption | omega) (by first | assumption | omega)) | (exfalso; omega)
