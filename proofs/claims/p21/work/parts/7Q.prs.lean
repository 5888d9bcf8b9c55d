/-! contracts of methods, walked -/
noncomputable def cI (P : Prop) : Int := @ite Int P (Classical.propDecidable P) 1 0
theorem cI_1 {P : Prop} (h : P) : cI P = 1 := @if_pos P (Classical.propDecidable P) h Int 1 0
theorem cI_0 {P : Prop} (h : ¬ P) : cI P = 0 := @if_neg P (Classical.propDecidable P) h Int 1 0
theorem cI_b (P : Prop) : 0 ≤ cI P ∧ cI P ≤ 1 := by
  rcases Classical.em P with h | h
  · rw [cI_1 h]; decide
  · rw [cI_0 h]; decide
theorem cI_e {P R : Prop} (h : P ↔ R) : cI P = cI R := by rw [propext h]
/-- sums -/
def cS (f : Nat → Int) : Nat → Int
  | 0 => 0
  | n + 1 => cS f n + f n
theorem cS_e {f g : Nat → Int} : ∀ {n : Nat}, (∀ k, k < n → f k = g k) → cS f n = cS g n
  | 0, _ => rfl
  | n + 1, h => by
    show cS f n + f n = cS g n + g n
    rw [cS_e (fun k hk => h k (by omega)), h n (by omega)]
theorem cS_add (f g : Nat → Int) : ∀ n : Nat, cS (fun k => f k + g k) n = cS f n + cS g n
  | 0 => rfl
  | n + 1 => by
    show cS (fun k => f k + g k) n + (f n + g n) = cS f n + f n + (cS g n + g n)
    rw [cS_add f g n]
    omega
theorem cS_0 : ∀ n : Nat, cS (fun _ => 0) n = 0
  | 0 => rfl
  | n + 1 => by show cS _ n + 0 = 0; rw [cS_0 n]; rfl
theorem cS_x (f : Nat → Nat → Int) (m : Nat) : ∀ n : Nat, cS (fun i => cS (f i) m) n = cS (fun j => cS (fun i => f i j) n) m
  | 0 => (cS_0 m).symm
  | n + 1 => by
    show cS (fun i => cS (f i) m) n + cS (f n) m = cS (fun j => cS (fun i => f i j) n + f n j) m
    rw [cS_x f m n, cS_add]
theorem cS_b {f : Nat → Int} {c : Int} (hf : ∀ k, 0 ≤ f k ∧ f k ≤ c) : ∀ n : Nat, 0 ≤ cS f n ∧ cS f n ≤ c * n
  | 0 => ⟨Int.le_refl _, by show (0 : Int) ≤ c * ((0 : Nat) : Int); rw [show ((0 : Nat) : Int) = 0 from rfl, Int.mul_zero]; exact Int.le_refl _⟩
  | n + 1 => by
    have h1 := cS_b hf n
    have h2 := hf n
    show 0 ≤ cS f n + f n ∧ cS f n + f n ≤ c * ((n + 1 : Nat) : Int)
    have h3 : c * ((n + 1 : Nat) : Int) = c * n + c := by rw [Int.natCast_add, Int.mul_add]; show c * n + c * 1 = _; rw [Int.mul_one]
    omega
theorem cS_zero {f : Nat → Int} : ∀ {n : Nat}, (∀ k, k < n → f k = 0) → cS f n = 0 := fun h => (cS_e h).trans (cS_0 _)
/-- pairs, the lesser first -/
noncomputable def c2 (P : Nat → Nat → Prop) (S : Nat) (x : Nat) : Int := cS (fun q => cI (x < q ∧ P x q)) S
noncomputable def cP (P : Nat → Nat → Prop) (S : Nat) : Int := cS (fun x => c2 P S x) S
theorem c2_b (P : Nat → Nat → Prop) (S x : Nat) : 0 ≤ c2 P S x ∧ c2 P S x ≤ S := by
  have := cS_b (f := fun q => cI (x < q ∧ P x q)) (c := 1) (fun k => cI_b _) S
  rw [Int.one_mul] at this
  exact this
theorem cP_e {P R : Nat → Nat → Prop} {S : Nat} (h : ∀ x y, x < S → y < S → (P x y ↔ R x y)) : cP P S = cP R S := cS_e (fun x hx => cS_e (fun y hy => cI_e (and_congr_right (fun _ => h x y hx hy))))
/-- the same pairs, the greater first -/
theorem cP_g {P : Nat → Nat → Prop} (hc : ∀ x y, P x y → P y x) (S : Nat) : cS (fun x => cS (fun q => cI (q < x ∧ P x q)) S) S = cP P S := by
  rw [cS_x]
  refine cS_e (fun q _ => cS_e (fun x _ => cI_e ⟨fun ⟨a, b⟩ => ⟨a, hc _ _ b⟩, fun ⟨a, b⟩ => ⟨a, hc _ _ b⟩⟩))
theorem cP_2 {P : Nat → Nat → Prop} (hc : ∀ x y, P x y → P y x) (S : Nat) : cS (fun x => cS (fun q => cI (x ≠ q ∧ P x q)) S) S = 2 * cP P S := by
  have e : cS (fun x => cS (fun q => cI (x ≠ q ∧ P x q)) S) S = cS (fun x => cS (fun q => cI (x < q ∧ P x q)) S + cS (fun q => cI (q < x ∧ P x q)) S) S := by
    refine cS_e (fun x _ => ?_)
    rw [← cS_add]
    refine cS_e (fun q _ => ?_)
    rcases Nat.lt_trichotomy x q with g | g | g
    · rcases Classical.em (P x q) with h | h
      · rw [cI_1 ⟨by omega, h⟩, cI_1 ⟨g, h⟩, cI_0 (fun z => absurd z.1 (by omega))]; rfl
      · rw [cI_0 (fun z => h z.2), cI_0 (fun z => h z.2), cI_0 (fun z => h z.2)]; rfl
    · rw [cI_0 (fun z => z.1 g), cI_0 (fun z => absurd z.1 (by omega)), cI_0 (fun z => absurd z.1 (by omega))]; rfl
    · rcases Classical.em (P x q) with h | h
      · rw [cI_1 ⟨by omega, h⟩, cI_0 (fun z => absurd z.1 (by omega)), cI_1 ⟨g, h⟩]; rfl
      · rw [cI_0 (fun z => h z.2), cI_0 (fun z => h z.2), cI_0 (fun z => h z.2)]; rfl
  rw [e, cS_add, cP_g hc]
  show cP P S + cP P S = _
  omega
theorem bcn_sum : ∀ v : Nat, v < 128 → (bcn (Int32.ofNat v)).toInt = cS (fun k => if v.testBit k then 1 else 0) 7 := by decide +kernel
theorem bI_nat {v k : Nat} (hk : k < 32) : bI (Int32.ofNat v) k = v.testBit k := by
  unfold bI
  show (BitVec.ofNat 32 v).getLsbD k = _
  rw [BitVec.getLsbD_ofNat, decide_eq_true hk, Bool.true_and]
theorem and_127 : ∀ x : Int32, 0 ≤ (x &&& 127).toInt ∧ (x &&& 127).toInt < 128 := fun x => by
  have h : (x &&& 127).toBitVec.toNat < 128 := by
    rw [Int32.toBitVec_and, BitVec.toNat_and]
    exact Nat.lt_of_le_of_lt Nat.and_le_right (by decide)
  have e : (x &&& 127).toInt = ((x &&& 127).toBitVec.toNat : Int) := by
    show (x &&& 127).toBitVec.toInt = _
    rw [BitVec.toInt_eq_toNat_cond, if_pos (by omega)]
  omega
theorem bI_127 : ∀ k, k < 32 → bI 127 k = decide (k < 7) := by decide +kernel
/-- a row that has no bits but the first seven -/
theorem low7 {x : Int32} (h : ∀ k, 7 ≤ k → k < 32 → bI x k = false) : 0 ≤ x.toInt ∧ x.toInt < 128 := by
  have e : x = x &&& 127 := bI_ext (fun k hk => by
    rw [bI_and, bI_127 k hk]
    by_cases g : k < 7
    · rw [decide_eq_true g, Bool.and_true]
    · rw [h k (by omega) hk]; rfl)
  rw [e]
  exact and_127 x
theorem hLk_low {P : Nat → Nat → Prop} {S n : Nat} {z : Int32} (hS : S ≤ 7) (h : hLk P S n z) : 0 ≤ z.toInt ∧ z.toInt < 128 := low7 (fun k h7 hk => by
  cases hb : bI z k with
  | false => rfl
  | true => have := (h k hk).mp hb; omega)
theorem hLk_bcn {P : Nat → Nat → Prop} {S n : Nat} {z : Int32} (hS : S ≤ 7) (h : hLk P S n z) : (bcn z).toInt = cS (fun q => cI (n ≠ q ∧ P n q)) S := by
  obtain ⟨h1, h2⟩ := hLk_low hS h
  obtain ⟨v, hv, rfl⟩ := i_on h1 h2
  rw [bcn_sum v hv]
  have e : ∀ k, k < 32 → (if v.testBit k then (1 : Int) else 0) = cI (k < S ∧ n ≠ k ∧ P n k) := fun k hk => by
    rw [← bI_nat hk]
    cases hb : bI (Int32.ofNat v) k with
    | true => rw [if_pos rfl, cI_1 ((h k hk).mp hb)]
    | false => rw [if_neg (by decide), cI_0 (fun z => by rw [(h k hk).mpr z] at hb; cases hb)]
  rw [cS_e (fun k hk => e k (by omega))]
  have split : ∀ d : Nat, S + d ≤ 7 → cS (fun k => cI (k < S ∧ n ≠ k ∧ P n k)) (S + d) = cS (fun k => cI (k < S ∧ n ≠ k ∧ P n k)) S := fun d => by
    induction d with
    | zero => intro _; rfl
    | succ d ih => intro hd; show cS _ (S + d) + cI _ = _; rw [ih (by omega), cI_0 (fun z => absurd z.1 (show ¬ (S + d < S) by omega))]; exact Int.add_zero _
  have := split (7 - S) (by omega)
  rw [show S + (7 - S) = 7 by omega] at this
  rw [this]
  exact cS_e (fun k hk => cI_e ⟨fun z => z.2, fun z => ⟨hk, z⟩⟩)
theorem lp_53b {ro : List (List Int32)} {d : Nat} {Q : Option Value → xH → Prop} {p0 : xH} {lo : Option (List yN)} {x k : Int32} {C : Int} {N : Nat} (g0 : lXo p0 lo) (g1 : ∀ j, -1 ≤ (rI p0 2 j).toInt) (g2 : 0 ≤ (rI p0 13 7).toInt) (g3 : (rI p0 13 7).toInt ≤ 7) (g4 : 0 ≤ (rI p0 13 9).toInt) (g5 : (rI p0 13 9).toInt ≤ 63) (g6 : 0 ≤ k.toInt) (g7 : k.toInt ≤ 12) (hx : 0 ≤ x.toInt) (hx2 : x.toInt < (rI p0 13 7).toInt) (hC : 0 ≤ C ∧ C ≤ 100) (K : ∀ m : Nat, m ≤ N → ∀ (q c : Int32) (p2 : xH), (q.toInt = (rI p0 13 7).toInt) → (c.toInt = C + cS (fun q => cI (x.toInt.toNat < q ∧ (Xal p0 lo k.toInt) x.toInt.toNat q)) q.toInt.toNat) → (hNt T_h p0 p2) → hP ro m d (4, 5, 1, 1, k53) 52 [(4, .int q), (3, .int x), (2, .int c), (0, .ref 32), (1, .int k)] [] p2 Q) : ∀ (n : Nat) (hn : n ≤ N) (q : Int32) (c : Int32) (p : xH), (x.toInt < q.toInt) → (q.toInt ≤ (rI p0 13 7).toInt) → (c.toInt = C + cS (fun q => cI (x.toInt.toNat < q ∧ (Xal p0 lo k.toInt) x.toInt.toNat q)) q.toInt.toNat) → (hNt T_h p0 p) → hP ro n d (4, 5, 1, 1, k53) 20 [(4, .int q), (3, .int x), (2, .int c), (0, .ref 32), (1, .int k)] [] p Q := by
  intro n
  induction n with
  | zero => intros; exact hp_0
  | succ n ih =>
    intro hn q c p hq1 hq2 hc hN
    refine hp_hw (fun wp => ?_)
    have e7 : (rI p 13 7).toInt = (rI p0 13 7).toInt := by rw [hN.int (r := 13) (k := 7) rfl]
    have hlo : lXo p lo := lXo_nt hN rfl (fun _ => rfl) (fun _ => rfl) g0
    have e9 : (rI p 13 9).toInt = (rI p0 13 9).toInt := by rw [hN.int (r := 13) (k := 9) rfl]
    have e2b : ∀ j, -1 ≤ (rI p 2 j).toInt := fun j => by rw [hN.int (r := 2) rfl]; exact g1 j
    have eX : Xal p lo = Xal p0 lo := Xal_sm (hN.sm (by decide))
    have hcb := cS_b (f := fun q => cI (x.toInt.toNat < q ∧ (Xal p0 lo k.toInt) x.toInt.toNat q)) (c := 1) (fun k => cI_b _) q.toInt.toNat
    have hq8 : q.toInt.toNat ≤ 8 := by omega
    refine hp_s1 (pc' := 22) (st' := [.int q]) rfl rfl rfl ?_
    refine hp_s (pc' := 23) (st' := [.ref 32, .int q]) rfl rfl rfl ?_
    refine hp_getr (k := 0) (w := .ref 13) (pc' := 26) rfl rfl rfl rfl rfl ?_
    refine hp_get (k := 7) (pc' := 29) (v := (rI p 13 7)) rfl rfl rfl rfl rfl rfl ?_
    refine hp_ic (pc' := 32) (t := 52) (a := q.toInt) (b := (rI p 13 7).toInt) rfl rfl rfl rfl rfl (fun (h1 : (rI p 13 7).toInt ≤ q.toInt) => ?_) (fun (h2 : ¬ ((rI p 13 7).toInt ≤ q.toInt)) => ?_)
    ·
      exact K n (by omega) _ _ _ (by omega) hc hN
    ·
      refine hp_s (pc' := 33) (st' := [.ref 32]) rfl rfl rfl ?_
      refine hp_s (pc' := 34) (st' := [.int x, .ref 32]) rfl rfl rfl ?_
      refine hp_s (pc' := 36) (st' := [.int q, .int x, .ref 32]) rfl rfl rfl ?_
      refine hp_s (pc' := 37) (st' := [.int k, .int q, .int x, .ref 32]) rfl rfl rfl ?_
      refine hp_cv (r := 32) (o := 4) (kd := 1) (as := [.int x, .int q, .int k]) (rest := []) (pc' := 40) rfl rfl rfl rfl rfl rfl rfl rfl rfl (fun d1 => ?_)
      refine s_isAfter lo (xi := x.toInt) rfl (yi := q.toInt) rfl (ki := k.toInt) rfl (by first | assumption | omega) (by first | assumption | omega) (by first | assumption | omega) (by first | assumption | omega) (by first | assumption | omega) (by first | assumption | omega) ?_ ?_
      ·
        intro p1 h3 h4
        rw [eX] at h4
        refine hp_id (st := [.int 1]) ?_
        refine hp_go (pc' := 43) rfl rfl rfl ?_
        refine hp_inc (L := fun z_ => [(2, .int z_), (4, .int q), (3, .int x), (0, .ref 32), (1, .int k)]) (pc' := 46) rfl rfl rfl (fun _ => rfl) rfl ?_
        intro z1 hz1
        have ez1 := i_add hz1 (show c.toInt = c.toInt from rfl) (show (Int32.ofInt 1).toInt = 1 from by decide)
        refine hp_inc (L := fun z_ => [(4, .int z_), (2, .int z1), (3, .int x), (0, .ref 32), (1, .int k)]) (pc' := 49) rfl rfl rfl (fun _ => rfl) rfl ?_
        intro z2 hz2
        have ez2 := i_add hz2 (show q.toInt = q.toInt from rfl) (show (Int32.ofInt 1).toInt = 1 from by decide)
        refine hp_go (pc' := 20) rfl rfl rfl ?_
        refine hp_ls (ls' := [(4, .int z2), (3, .int x), (2, .int z1), (0, .ref 32), (1, .int k)]) rfl rfl ⟨rfl, rfl, rfl, rfl, rfl, trivial⟩ ?_
        have hs : cS (fun q => cI (x.toInt.toNat < q ∧ (Xal p0 lo k.toInt) x.toInt.toNat q)) z2.toInt.toNat = cS (fun q => cI (x.toInt.toNat < q ∧ (Xal p0 lo k.toInt) x.toInt.toNat q)) q.toInt.toNat + 1 := by rw [show z2.toInt.toNat = q.toInt.toNat + 1 by omega]; show _ + cI _ = _; rw [cI_1 ⟨by omega, h4⟩]
        exact ih (by omega) z2 z1 _ (by omega) (by omega) (by omega) (hN.trans h3)
      ·
        intro p2 h5 h6
        rw [eX] at h6
        refine hp_id (st := [.int 0]) ?_
        refine hp_go (pc' := 46) rfl rfl rfl ?_
        refine hp_inc (L := fun z_ => [(4, .int z_), (3, .int x), (2, .int c), (0, .ref 32), (1, .int k)]) (pc' := 49) rfl rfl rfl (fun _ => rfl) rfl ?_
        intro z3 hz3
        have ez3 := i_add hz3 (show q.toInt = q.toInt from rfl) (show (Int32.ofInt 1).toInt = 1 from by decide)
        refine hp_go (pc' := 20) rfl rfl rfl ?_
        have hs : cS (fun q => cI (x.toInt.toNat < q ∧ (Xal p0 lo k.toInt) x.toInt.toNat q)) z3.toInt.toNat = cS (fun q => cI (x.toInt.toNat < q ∧ (Xal p0 lo k.toInt) x.toInt.toNat q)) q.toInt.toNat + 0 := by rw [show z3.toInt.toNat = q.toInt.toNat + 1 by omega]; show _ + cI _ = _; rw [cI_0 (fun z => absurd z.2 h6)]
        exact ih (by omega) z3 c _ (by omega) (by omega) (by omega) (hN.trans h5)
theorem lp_53a {ro : List (List Int32)} {d : Nat} {Q : Option Value → xH → Prop} {p0 : xH} {lo : Option (List yN)} {k : Int32} {N : Nat} (g0 : lXo p0 lo) (g1 : ∀ j, -1 ≤ (rI p0 2 j).toInt) (g2 : 0 ≤ (rI p0 13 7).toInt) (g3 : (rI p0 13 7).toInt ≤ 7) (g4 : 0 ≤ (rI p0 13 9).toInt) (g5 : (rI p0 13 9).toInt ≤ 63) (g6 : 0 ≤ k.toInt) (g7 : k.toInt ≤ 12) (K : ∀ m : Nat, m ≤ N → ∀ (x c : Int32) (p2 : xH) (t : Int32), (x.toInt = (rI p0 13 7).toInt) → (c.toInt = cS (fun x => c2 (Xal p0 lo k.toInt) (rI p0 13 7).toInt.toNat x) x.toInt.toNat) → (hNt T_h p0 p2) → hP ro m d (4, 5, 1, 1, k53) 58 [(3, .int x), (2, .int c), (4, .int t), (0, .ref 32), (1, .int k)] [] p2 Q) : ∀ (n : Nat) (hn : n ≤ N) (x : Int32) (c : Int32) (p : xH) (t : Int32), (0 ≤ x.toInt) → (x.toInt ≤ (rI p0 13 7).toInt) → (c.toInt = cS (fun x => c2 (Xal p0 lo k.toInt) (rI p0 13 7).toInt.toNat x) x.toInt.toNat) → (hNt T_h p0 p) → hP ro n d (4, 5, 1, 1, k53) 4 [(3, .int x), (2, .int c), (4, .int t), (0, .ref 32), (1, .int k)] [] p Q := by
  intro n
  induction n with
  | zero => intros; exact hp_0
  | succ n ih =>
    intro hn x c p t h1 h2 hc hN
    refine hp_hw (fun wp => ?_)
    have e7 : (rI p 13 7).toInt = (rI p0 13 7).toInt := by rw [hN.int (r := 13) (k := 7) rfl]
    have hlo : lXo p lo := lXo_nt hN rfl (fun _ => rfl) (fun _ => rfl) g0
    have e9 : (rI p 13 9).toInt = (rI p0 13 9).toInt := by rw [hN.int (r := 13) (k := 9) rfl]
    have e2b : ∀ j, -1 ≤ (rI p 2 j).toInt := fun j => by rw [hN.int (r := 2) rfl]; exact g1 j
    have eX : Xal p lo = Xal p0 lo := Xal_sm (hN.sm (by decide))
    have hcb := cS_b (f := fun x => c2 (Xal p0 lo k.toInt) (rI p0 13 7).toInt.toNat x) (c := 7) (fun kk => by have q := c2_b (Xal p0 lo k.toInt) (rI p0 13 7).toInt.toNat kk; omega) x.toInt.toNat
    have hx8 : x.toInt.toNat ≤ 7 := by omega
    have hc2b := c2_b (Xal p0 lo k.toInt) (rI p0 13 7).toInt.toNat x.toInt.toNat
    refine hp_s1 (pc' := 5) (st' := [.int x]) rfl rfl rfl ?_
    refine hp_s (pc' := 6) (st' := [.ref 32, .int x]) rfl rfl rfl ?_
    refine hp_getr (k := 0) (w := .ref 13) (pc' := 9) rfl rfl rfl rfl rfl ?_
    refine hp_get (k := 7) (pc' := 12) (v := (rI p 13 7)) rfl rfl rfl rfl rfl rfl ?_
    refine hp_ic (pc' := 15) (t := 58) (a := x.toInt) (b := (rI p 13 7).toInt) rfl rfl rfl rfl rfl (fun (h1 : (rI p 13 7).toInt ≤ x.toInt) => ?_) (fun (h2 : ¬ ((rI p 13 7).toInt ≤ x.toInt)) => ?_)
    ·
      exact K n (by omega) _ _ _ _ (by omega) hc hN
    ·
      refine hp_s (pc' := 16) (st' := [.int x]) rfl rfl rfl ?_
      refine hp_s (pc' := 17) (st' := [.int 1, .int x]) rfl rfl rfl ?_
      refine hp_z (pc' := 18) (e := x + 1) (st' := []) rfl rfl rfl ?_
      intro z1 hz1
      have ez1 := i_add hz1 (show x.toInt = x.toInt from rfl) (show (1 : Int32).toInt = 1 from by decide)
      refine hp_s (pc' := 20) (ls' := [(4, .int z1), (3, .int x), (2, .int c), (0, .ref 32), (1, .int k)]) (st' := []) rfl rfl rfl ?_
      have hz0 : cS (fun q => cI (x.toInt.toNat < q ∧ (Xal p0 lo k.toInt) x.toInt.toNat q)) z1.toInt.toNat = 0 := cS_zero (fun j hj => cI_0 (fun z => absurd z.1 (by omega)))
      refine lp_53b (N := n) (x := x) (k := k) (C := c.toInt) g0 g1 g2 g3 g4 g5 g6 g7 h1 (by omega) (by omega) (fun m0 hm0 q c2_ p2 j1 j2 j3 => ?_) n (Nat.le_refl _) z1 c p (by omega) (by omega) (by omega) hN
      refine hp_inc (L := fun z_ => [(3, .int z_), (4, .int q), (2, .int c2_), (0, .ref 32), (1, .int k)]) (pc' := 55) rfl rfl rfl (fun _ => rfl) rfl ?_
      intro z2 hz2
      have ez2 := i_add hz2 (show x.toInt = x.toInt from rfl) (show (Int32.ofInt 1).toInt = 1 from by decide)
      refine hp_go (pc' := 4) rfl rfl rfl ?_
      refine hp_ls (ls' := [(3, .int z2), (2, .int c2_), (4, .int q), (0, .ref 32), (1, .int k)]) rfl rfl ⟨rfl, rfl, rfl, rfl, rfl, trivial⟩ ?_
      have hs : cS (fun x => c2 (Xal p0 lo k.toInt) (rI p0 13 7).toInt.toNat x) z2.toInt.toNat = cS (fun x => c2 (Xal p0 lo k.toInt) (rI p0 13 7).toInt.toNat x) x.toInt.toNat + c2 (Xal p0 lo k.toInt) (rI p0 13 7).toInt.toNat x.toInt.toNat := by rw [show z2.toInt.toNat = x.toInt.toNat + 1 by omega]; rfl
      have hq : cS (fun q => cI (x.toInt.toNat < q ∧ (Xal p0 lo k.toInt) x.toInt.toNat q)) q.toInt.toNat = c2 (Xal p0 lo k.toInt) (rI p0 13 7).toInt.toNat x.toInt.toNat := by rw [j1]; rfl
      exact hp_le hm0 (ih (by omega) z2 c2_ _ q (by omega) (by omega) (by omega) j3)
theorem s_pairsAfter {ro : List (List Int32)} {n d : Nat} {p : xH} {Q : Option Value → xH → Prop} (lo : Option (List yN)) {k : Int32} {ki : Int} (hk : k.toInt = ki) (pre0 : lXo p lo) (pre1 : ∀ j, -1 ≤ (rI p 2 j).toInt) (pre2 : 0 ≤ (rI p 13 7).toInt) (pre3 : (rI p 13 7).toInt ≤ 7) (pre4 : 0 ≤ (rI p 13 9).toInt) (pre5 : (rI p 13 9).toInt ≤ 63) (pre6 : 0 ≤ ki) (pre7 : ki ≤ 12) (k0 : ∀ z : Int32, ∀ p2 : xH, (hNt T_h p p2) → (z.toInt = cP (Xal p lo ki) (rI p 13 7).toInt.toNat) → Q (some (.int z)) p2) : hP ro n d (4, 5, 1, 1, k53) 0 (lv_args 0 [.ref 32, .int k]) [] p Q := by
  subst hk
  refine hp_id (ls := [(0, .ref 32), (1, .int k)]) ?_
  refine hp_s (pc' := 1) (st' := [.int 0]) rfl rfl rfl ?_
  refine hp_s (pc' := 2) (ls' := [(2, .int 0), (0, .ref 32), (1, .int k)]) (st' := []) rfl rfl rfl ?_
  refine hp_s (pc' := 3) (st' := [.int 0]) rfl rfl rfl ?_
  refine hp_s (pc' := 4) (ls' := [(3, .int 0), (2, .int 0), (0, .ref 32), (1, .int k)]) (st' := []) rfl rfl rfl ?_
  refine hp_ls (ls' := [(3, .int 0), (2, .int 0), (4, .int 0), (0, .ref 32), (1, .int k)]) rfl rfl ⟨rfl, rfl, rfl, rfl, trivial⟩ ?_
  refine lp_53a (p0 := p) (N := n) (k := k) pre0 pre1 pre2 pre3 pre4 pre5 pre6 pre7 (fun m0 hm0 x c p2 t j1 j2 j3 => ?_) n (Nat.le_refl _) 0 0 p 0 (by decide) (by have h00 : (0 : Int32).toInt = 0 := (by decide); omega) (by rw [i_ofz]; rfl) (hNt.refl _ _)
  refine hp_s (pc' := 59) (st' := [.int c]) rfl rfl rfl ?_
  refine hp_ri rfl rfl ?_
  exact k0 _ _ j3 (by rw [j2]; unfold cP; rw [j1])
theorem X_needs {ro : List (List Int32)} {n d : Nat} {p : xH} {Q : Option Value → xH → Prop} (lo : Option (List yN))  (pre0 : lXo p lo) (pre1 : ∀ j, -1 ≤ (rI p 2 j).toInt) (pre2 : 0 ≤ (rI p 13 7).toInt) (pre3 : (rI p 13 7).toInt ≤ 7) (pre4 : 0 ≤ (rI p 13 9).toInt) (pre5 : (rI p 13 9).toInt ≤ 63) (k0 : ∀ z : Int32, ∀ p2 : xH, (hNt T_h p p2) → (z.toInt = cP (Xal p lo 0) (rI p 13 7).toInt.toNat) → Q (some (.int z)) p2) : hP ro n d (11, 1, 1, 1, k146) 0 (lv_args 0 [.ref 0]) [] p Q := by
  refine hp_id (ls := [(0, .ref 0)]) ?_
  refine hp_s (pc' := 1) (st' := [.ref 0]) rfl rfl rfl ?_
  refine hp_getr (k := 7) (w := .ref 32) (pc' := 4) rfl rfl rfl rfl rfl ?_
  refine hp_s (pc' := 5) (st' := [.int 0, .ref 32]) rfl rfl rfl ?_
  refine hp_cv (r := 32) (o := 4) (kd := 1) (as := [.int 0]) (rest := []) (pc' := 8) rfl rfl rfl rfl rfl rfl rfl rfl rfl (fun d1 => ?_)
  refine s_pairsAfter lo (ki := 0) (by decide) (by first | assumption | omega) (by first | assumption | omega) (by first | assumption | omega) (by first | assumption | omega) (by first | assumption | omega) (by first | assumption | omega) (by first | assumption | omega) (by first | assumption | omega) ?_
  intro y1 p1 h1 h2
  refine hp_id (st := [.int y1]) ?_
  refine hp_ri rfl rfl ?_
  first | (exact k0 _ _ (by first | assumption | omega) (by first | assumption | omega)) | (exfalso; omega)
theorem X_months {ro : List (List Int32)} {n d : Nat} {p : xH} {Q : Option Value → xH → Prop} (lo : Option (List yN)) {k : Int32} {ki : Int} (hk : k.toInt = ki) (pre0 : lXo p lo) (pre1 : ∀ j, -1 ≤ (rI p 2 j).toInt) (pre2 : 0 ≤ (rI p 13 7).toInt) (pre3 : (rI p 13 7).toInt ≤ 7) (pre4 : 0 ≤ (rI p 13 9).toInt) (pre5 : (rI p 13 9).toInt ≤ 63) (k0 : (¬ (1 ≤ ki ∧ ki ≤ 12)) → Q (some (.int (-1))) p) (k1 : ∀ z : Int32, ∀ p2 : xH, (hNt T_h p p2) → (1 ≤ ki) → (ki ≤ 12) → (z.toInt = cP (Xal p lo ki) (rI p 13 7).toInt.toNat) → Q (some (.int z)) p2) : hP ro n d (11, 2, 1, 1, k156) 0 (lv_args 0 [.ref 0, .int k]) [] p Q := by
  subst hk
  refine hp_id (ls := [(0, .ref 0), (1, .int k)]) ?_
  refine hp_s (pc' := 1) (st' := [.int k]) rfl rfl rfl ?_
  refine hp_s (pc' := 2) (st' := [.int 1, .int k]) rfl rfl rfl ?_
  refine hp_ic (pc' := 5) (t := 11) (a := k.toInt) (b := 1) rfl rfl rfl rfl (by decide) (fun (h1 : k.toInt < 1) => ?_) (fun (h2 : ¬ (k.toInt < 1)) => ?_)
  ·
    refine hp_s (pc' := 12) (st' := [.int (-1)]) rfl rfl rfl ?_
    refine hp_ri rfl rfl ?_
    first | (exact k0 (by first | assumption | omega)) | (exact k1 _ _ (by first | assumption | omega) (by first | assumption | omega) (by first | assumption | omega) (by first | assumption | omega)) | (exfalso; omega)
  ·
    refine hp_s (pc' := 6) (st' := [.int k]) rfl rfl rfl ?_
    refine hp_s (pc' := 8) (st' := [.int 12, .int k]) rfl rfl rfl ?_
    refine hp_ic (pc' := 11) (t := 13) (a := k.toInt) (b := 12) rfl rfl rfl rfl (by decide) (fun (h3 : k.toInt ≤ 12) => ?_) (fun (h4 : ¬ (k.toInt ≤ 12)) => ?_)
    ·
      refine hp_s (pc' := 14) (st' := [.ref 0]) rfl rfl rfl ?_
      refine hp_getr (k := 7) (w := .ref 32) (pc' := 17) rfl rfl rfl rfl rfl ?_
      refine hp_s (pc' := 18) (st' := [.int k, .ref 32]) rfl rfl rfl ?_
      refine hp_cv (r := 32) (o := 4) (kd := 1) (as := [.int k]) (rest := []) (pc' := 21) rfl rfl rfl rfl rfl rfl rfl rfl rfl (fun d1 => ?_)
      refine s_pairsAfter lo (ki := k.toInt) rfl (by first | assumption | omega) (by first | assumption | omega) (by first | assumption | omega) (by first | assumption | omega) (by first | assumption | omega) (by first | assumption | omega) (by first | assumption | omega) (by first | assumption | omega) ?_
      intro y1 p1 h5 h6
      refine hp_id (st := [.int y1]) ?_
      refine hp_ri rfl rfl ?_
      first | (exact k0 (by first | assumption | omega)) | (exact k1 _ _ (by first | assumption | omega) (by first | assumption | omega) (by first | assumption | omega) (by first | assumption | omega)) | (exfalso; omega)
    ·
      refine hp_s (pc' := 12) (st' := [.int (-1)]) rfl rfl rfl ?_
      refine hp_ri rfl rfl ?_
      first | (exact k0 (by first | assumption | omega)) | (exact k1 _ _ (by first | assumption | omega) (by first | assumption | omega) (by first | assumption | omega) (by first | assumption | omega)) | (exfalso; omega)
theorem lp_232 {ro : List (List Int32)} {d : Nat} {Q : Option Value → xH → Prop} {p0 p1 : xH} {lo : Option (List yN)} (g0 : (rI p1 66 6).toInt = (rI p0 66 6).toInt) (g1 : ∀ n, n < (rI p0 66 6).toInt.toNat → hLk (Mal p0 lo) (rI p0 66 6).toInt.toNat n (rI p1 78 n)) (g2 : 0 ≤ (rI p0 66 6).toInt) (g3 : (rI p0 66 6).toInt ≤ 7) (K : ∀ z : Int32, z.toInt = cS (fun x => cS (fun q => cI (x ≠ q ∧ (Mal p0 lo) x q)) (rI p0 66 6).toInt.toNat) (rI p0 66 6).toInt.toNat / 2 → Q (some (.int z)) p1) : ∀ (n : Nat) (x : Int32) (c : Int32), (0 ≤ x.toInt) → (x.toInt ≤ (rI p0 66 6).toInt) → (c.toInt = cS (fun x => cS (fun q => cI (x ≠ q ∧ (Mal p0 lo) x q)) (rI p0 66 6).toInt.toNat) x.toInt.toNat) → hP ro n d (12, 3, 1, 1, k232) 8 [(2, .int x), (1, .int c), (0, .ref 66)] [] p1 Q := by
  intro n
  induction n with
  | zero => intros; exact hp_0
  | succ n ih =>
    intro x c h1 h2 hc
    have hcb := cS_b (f := fun x => cS (fun q => cI (x ≠ q ∧ (Mal p0 lo) x q)) (rI p0 66 6).toInt.toNat) (c := 7) (fun x => by have q := cS_b (f := fun q => cI (x ≠ q ∧ (Mal p0 lo) x q)) (c := 1) (fun k => cI_b _) (rI p0 66 6).toInt.toNat; omega) x.toInt.toNat
    have hx8 : x.toInt.toNat ≤ 7 := by omega
    refine hp_s1 (pc' := 9) (st' := [.int x]) rfl rfl rfl ?_
    refine hp_s (pc' := 10) (st' := [.ref 66, .int x]) rfl rfl rfl ?_
    refine hp_get (k := 6) (pc' := 13) (v := (rI p1 66 6)) rfl rfl rfl rfl rfl rfl ?_
    refine hp_ic (pc' := 16) (t := 34) (a := x.toInt) (b := (rI p1 66 6).toInt) rfl rfl rfl rfl rfl (fun (h1 : (rI p1 66 6).toInt ≤ x.toInt) => ?_) (fun (h2 : ¬ ((rI p1 66 6).toInt ≤ x.toInt)) => ?_)
    ·
      refine hp_s (pc' := 35) (st' := [.int c]) rfl rfl rfl ?_
      refine hp_s (pc' := 36) (st' := [.int 2, .int c]) rfl rfl rfl ?_
      refine hp_z (pc' := 37) (e := c / 2) (st' := []) rfl rfl rfl ?_
      intro z1 hz1
      have ez1 := i_div hz1 (show c.toInt = c.toInt from rfl) (show (2 : Int32).toInt = 2 from by decide) (by decide)
      refine hp_ri rfl rfl ?_
      have q : cS (fun x => cS (fun q => cI (x ≠ q ∧ (Mal p0 lo) x q)) (rI p0 66 6).toInt.toNat) x.toInt.toNat = cS (fun x => cS (fun q => cI (x ≠ q ∧ (Mal p0 lo) x q)) (rI p0 66 6).toInt.toNat) (rI p0 66 6).toInt.toNat := by rw [show x.toInt.toNat = (rI p0 66 6).toInt.toNat by omega]
      exact K _ (by omega)
    ·
      refine hp_s (pc' := 17) (st' := [.int c]) rfl rfl rfl ?_
      refine hp_s (pc' := 18) (st' := [.ref 66, .int c]) rfl rfl rfl ?_
      refine hp_getr (k := 21) (w := .ref 78) (pc' := 21) rfl rfl rfl rfl rfl ?_
      refine hp_s (pc' := 22) (st' := [.int x, .ref 78, .int c]) rfl rfl rfl ?_
      refine hp_ld (t := 100) (v := (rI p1 78 x.toInt.toNat)) rfl (.inl rfl) rfl rfl rfl ?_
      intro (g1a : 0 ≤ x.toInt) (g1b : x.toInt < 7)
      have hlw := hLk_low (by omega) (g1 x.toInt.toNat (by omega))
      refine hp_cs (kd := 0) (as := [.int (rI p1 78 x.toInt.toNat)]) (rest := [.int c]) (pc' := 26) rfl rfl rfl rfl rfl rfl rfl (fun d1 => ?_)
      refine s_bitsOf (xi := (rI p1 78 x.toInt.toNat).toInt) rfl (by first | assumption | omega) (by first | assumption | omega) ?_
      intro y1 h3
      have hbz : 0 ≤ y1.toInt ∧ y1.toInt ≤ 7 := by rw [h3]; exact bcn_b hlw.1 hlw.2
      refine hp_id (st := [.int y1, .int c]) ?_
      refine hp_z (pc' := 27) (e := c + y1) (st' := []) rfl rfl rfl ?_
      intro z2 hz2
      have ez2 := i_add hz2 (show c.toInt = c.toInt from rfl) (show y1.toInt = y1.toInt from rfl)
      refine hp_s (pc' := 28) (ls' := [(1, .int z2), (2, .int x), (0, .ref 66)]) (st' := []) rfl rfl rfl ?_
      refine hp_inc (L := fun z_ => [(2, .int z_), (1, .int z2), (0, .ref 66)]) (pc' := 31) rfl rfl rfl (fun _ => rfl) rfl ?_
      intro z3 hz3
      have ez3 := i_add hz3 (show x.toInt = x.toInt from rfl) (show (Int32.ofInt 1).toInt = 1 from by decide)
      refine hp_go (pc' := 8) rfl rfl rfl ?_
      have hs : cS (fun x => cS (fun q => cI (x ≠ q ∧ (Mal p0 lo) x q)) (rI p0 66 6).toInt.toNat) z3.toInt.toNat = cS (fun x => cS (fun q => cI (x ≠ q ∧ (Mal p0 lo) x q)) (rI p0 66 6).toInt.toNat) x.toInt.toNat + (bcn (rI p1 78 x.toInt.toNat)).toInt := by rw [show z3.toInt.toNat = x.toInt.toNat + 1 by omega, hLk_bcn (by omega) (g1 x.toInt.toNat (by omega))]; rfl
      rw [← h3] at hs
      exact ih z3 z2 (by omega) (by omega) (by omega)
theorem M_needs {ro : List (List Int32)} {n d : Nat} {p : xH} {Q : Option Value → xH → Prop} (lo : Option (List yN))  (pre0 : lMo p lo) (pre1 : ∀ j, 0 ≤ (rI p 67 j).toInt ∧ (rI p 67 j).toInt < 64) (pre2 : ∀ j, -1 ≤ (rI p 71 j).toInt ∧ (rI p 71 j).toInt < 6) (pre3 : 0 ≤ (rI p 66 6).toInt) (pre4 : (rI p 66 6).toInt ≤ 7) (k0 : ∀ z : Int32, ∀ p2 : xH, (hNt T_ml p p2) → (z.toInt = cP (Mal p lo) (rI p 66 6).toInt.toNat) → Q (some (.int z)) p2) : hP ro n d (12, 3, 1, 1, k232) 0 (lv_args 0 [.ref 66]) [] p Q := by
  refine hp_id (ls := [(0, .ref 66)]) ?_
  refine hp_s (pc' := 1) (st' := [.ref 66]) rfl rfl rfl ?_
  refine hp_cv (r := 66) (o := 12) (kd := 1) (as := []) (rest := []) (pc' := 4) rfl rfl rfl rfl rfl rfl rfl rfl rfl (fun d1 => ?_)
  refine s_asksLikes lo (by first | assumption | omega) (by first | assumption | omega) (by first | assumption | omega) (by first | assumption | omega) (by first | assumption | omega) ?_
  intro p1 h1 h2
  skip
  refine hp_id (st := []) ?_
  refine hp_s (pc' := 5) (st' := [.int 0]) rfl rfl rfl ?_
  refine hp_s (pc' := 6) (ls' := [(1, .int 0), (0, .ref 66)]) (st' := []) rfl rfl rfl ?_
  refine hp_s (pc' := 7) (st' := [.int 0]) rfl rfl rfl ?_
  refine hp_s (pc' := 8) (ls' := [(2, .int 0), (1, .int 0), (0, .ref 66)]) (st' := []) rfl rfl rfl ?_
  exact lp_232 (p0 := p) (p1 := p1) (by rw [h1.int (r := 66) (k := 6) rfl]) h2 pre3 pre4 (fun z e => k0 z _ h1 (by rw [e, cP_2 (P := Mal p lo) (fun _ _ => Mal_c)]; omega)) n 0 0 (by decide) (by have h00 : (0 : Int32).toInt = 0 := (by decide); omega) (by rw [i_ofz]; rfl)
def aM (p : xH) (n : Nat) (k : Int) : Int32 := mS p n ^^^ (if k % 2 = 1 then rI p 67 (14 + n) else 0)
def Mmo (p : xH) (lo : Option (List yN)) (k : Int) (x y : Nat) : Prop := lAl lo (bcn (aM p x k ^^^ aM p y k)) (aM p x k) (aM p y k) (hWn (rI p 71 x) + hWn (rI p 71 y)) (Int32.ofInt (((rI p 67 22).toInt + k) % 12)) (rI p 67 21)
theorem Mmo_c {p : xH} {lo : Option (List yN)} {k : Int} {x y : Nat} (h : Mmo p lo k x y) : Mmo p lo k y x := lAl_c (Int32.add_comm _ _) h
theorem Mmo_sm {p p2 : xH} {lo : Option (List yN)} (h : hSm F_pm p p2) : Mmo p2 lo = Mmo p lo := by
  funext k x y
  have e : ∀ n, aM p2 n k = aM p n k := fun n => by
    unfold aM mS
    rw [h.int (r := 67) rfl, h.int (r := 71) rfl, h.int (r := 67) rfl]
  unfold Mmo
  rw [e, e, h.int (r := 71) rfl, h.int (r := 71) rfl, h.int (r := 67) rfl, h.int (r := 67) rfl]
theorem cS_tail {f : Nat → Int} {x S : Nat} (hx : x ≤ S) (h : ∀ k, x ≤ k → f k = 0) : cS f S = cS f x := by
  obtain ⟨d, rfl⟩ := Nat.exists_eq_add_of_le hx
  clear hx
  induction d with
  | zero => rfl
  | succ d ih => show cS f (x + d) + f (x + d) = _; rw [ih, h _ (by omega)]; exact Int.add_zero _
theorem lp_247b {ro : List (List Int32)} {d : Nat} {Q : Option Value → xH → Prop} {p0 : xH} {lo : Option (List yN)} {x k mo : Int32} {C : Int} {N : Nat} (g0 : lMo p0 lo) (g1 : ∀ j, 0 ≤ (rI p0 67 j).toInt ∧ (rI p0 67 j).toInt < 64) (g2 : ∀ j, -1 ≤ (rI p0 71 j).toInt ∧ (rI p0 71 j).toInt < 6) (g3 : 0 ≤ (rI p0 66 6).toInt) (g4 : (rI p0 66 6).toInt ≤ 7) (g5 : 1 ≤ k.toInt) (g6 : k.toInt ≤ 12) (hx : 0 ≤ x.toInt) (hx2 : x.toInt < (rI p0 66 6).toInt) (hm : mo.toInt = ((rI p0 67 22).toInt + k.toInt) % 12) (gb : 0 ≤ (rI p0 67 22).toInt) (hC : 0 ≤ C ∧ C ≤ 100) (K : ∀ m : Nat, m ≤ N → ∀ (q c a b : Int32) (p2 : xH), (q.toInt = x.toInt) → (c.toInt = C + cS (fun q => cI (q < x.toInt.toNat ∧ (Mmo p0 lo k.toInt) x.toInt.toNat q)) q.toInt.toNat) → (hNt T_aa p0 p2) → hP ro m d (12, 8, 1, 1, k247) 158 [(5, .int q), (4, .int x), (3, .int c), (6, .int a), (7, .int b), (0, .ref 66), (1, .int k), (2, .int mo)] [] p2 Q) : ∀ (n : Nat) (hn : n ≤ N) (q : Int32) (c : Int32) (a : Int32) (b : Int32) (p : xH), (0 ≤ q.toInt) → (q.toInt ≤ x.toInt) → (c.toInt = C + cS (fun q => cI (q < x.toInt.toNat ∧ (Mmo p0 lo k.toInt) x.toInt.toNat q)) q.toInt.toNat) → (hNt T_aa p0 p) → hP ro n d (12, 8, 1, 1, k247) 44 [(5, .int q), (4, .int x), (3, .int c), (6, .int a), (7, .int b), (0, .ref 66), (1, .int k), (2, .int mo)] [] p Q := by
  intro n
  induction n with
  | zero => intros; exact hp_0
  | succ n ih =>
    intro hn q c a b p hq1 hq2 hc hN
    refine hp_hw (fun wp => ?_)
    have e6 : (rI p 66 6).toInt = (rI p0 66 6).toInt := by rw [hN.int (r := 66) (k := 6) rfl]
    have hlo : lMo p lo := lMo_nt hN rfl (fun _ => rfl) g0
    have e67 : ∀ j, 0 ≤ (rI p 67 j).toInt ∧ (rI p 67 j).toInt < 64 := fun j => by rw [hN.int (r := 67) rfl]; exact g1 j
    have e71 : ∀ j, -1 ≤ (rI p 71 j).toInt ∧ (rI p 71 j).toInt < 6 := fun j => by rw [hN.int (r := 71) rfl]; exact g2 j
    have eM : Mmo p lo = Mmo p0 lo := Mmo_sm (hN.sm (by decide))
    have e22 : (rI p 67 22).toInt = (rI p0 67 22).toInt := by rw [hN.int (r := 67) rfl]
    have hcb := cS_b (f := fun q => cI (q < x.toInt.toNat ∧ (Mmo p0 lo k.toInt) x.toInt.toNat q)) (c := 1) (fun k => cI_b _) q.toInt.toNat
    have hq8 : q.toInt.toNat ≤ 8 := by omega
    refine hp_s1 (pc' := 46) (st' := [.int q]) rfl rfl rfl ?_
    refine hp_s (pc' := 48) (st' := [.int x, .int q]) rfl rfl rfl ?_
    refine hp_ic (pc' := 51) (t := 158) (a := q.toInt) (b := x.toInt) rfl rfl rfl rfl rfl (fun (h1 : x.toInt ≤ q.toInt) => ?_) (fun (h2 : ¬ (x.toInt ≤ q.toInt)) => ?_)
    ·
      exact K n (by omega) _ _ _ _ _ (by omega) hc hN
    ·
      refine hp_s (pc' := 52) (st' := [.ref 66]) rfl rfl rfl ?_
      refine hp_s (pc' := 54) (st' := [.int x, .ref 66]) rfl rfl rfl ?_
      refine hp_cv (r := 66) (o := 12) (kd := 1) (as := [.int x]) (rest := []) (pc' := 57) rfl rfl rfl rfl rfl rfl rfl rfl rfl (fun d1 => ?_)
      refine s_seenOf (xi := x.toInt) rfl ?_
      intro y1 h3 h4
      have bA : 0 ≤ y1.toInt ∧ y1.toInt < 64 := by rw [h4]; exact hSn_b (e67 _).1 (e67 _).2 (e71 _).2
      refine hp_id (st := [.int y1]) ?_
      refine hp_s (pc' := 58) (st' := [.int k, .int y1]) rfl rfl rfl ?_
      refine hp_s (pc' := 59) (st' := [.int 2, .int k, .int y1]) rfl rfl rfl ?_
      refine hp_z (pc' := 60) (e := k - k / 2 * 2) (st' := [.int y1]) rfl rfl rfl ?_
      intro z1 hz1
      have ez1 := i_rem hz1 (show k.toInt = k.toInt from rfl) (show (2 : Int32).toInt = 2 from by decide) (by decide)
      refine hp_s (pc' := 61) (st' := [.int 1, .int z1, .int y1]) rfl rfl rfl ?_
      refine hp_ic (pc' := 64) (t := 77) (a := (k.toInt % 2)) (b := 1) rfl rfl rfl (by omega) (by decide) (fun (h5 : (k.toInt % 2) ≠ 1) => ?_) (fun (h6 : ¬ ((k.toInt % 2) ≠ 1)) => ?_)
      ·
        refine hp_s (pc' := 78) (st' := [.int 0, .int y1]) rfl rfl rfl ?_
        refine hp_z (pc' := 79) (e := y1 ^^^ 0) (st' := []) rfl rfl rfl ?_
        intro z2 hz2
        have vA : z2 = aM p x.toInt.toNat k.toInt := by
          rw [hz2, h4]
          unfold aM mS
          first
          | rw [if_pos (by omega)]; congr 1; congr 1; omega
          | rw [if_neg (by omega)]
          | exfalso; omega
        have cA : 0 ≤ z2.toInt ∧ z2.toInt < 64 := by rw [hz2]; first | exact xor_b bA.1 bA.2 (e67 _).1 (e67 _).2 | exact xor_b bA.1 bA.2 (by decide) (by decide)
        refine hp_s (pc' := 81) (ls' := [(6, .int z2), (5, .int q), (4, .int x), (3, .int c), (7, .int b), (0, .ref 66), (1, .int k), (2, .int mo)]) (st' := []) rfl rfl rfl ?_
        refine hp_s (pc' := 82) (st' := [.ref 66]) rfl rfl rfl ?_
        refine hp_s (pc' := 84) (st' := [.int q, .ref 66]) rfl rfl rfl ?_
        refine hp_cv (r := 66) (o := 12) (kd := 1) (as := [.int q]) (rest := []) (pc' := 87) rfl rfl rfl rfl rfl rfl rfl rfl rfl (fun d2 => ?_)
        refine s_seenOf (xi := q.toInt) rfl ?_
        intro y2 h7 h8
        have bB : 0 ≤ y2.toInt ∧ y2.toInt < 64 := by rw [h8]; exact hSn_b (e67 _).1 (e67 _).2 (e71 _).2
        refine hp_id (st := [.int y2]) ?_
        refine hp_s (pc' := 88) (st' := [.int k, .int y2]) rfl rfl rfl ?_
        refine hp_s (pc' := 89) (st' := [.int 2, .int k, .int y2]) rfl rfl rfl ?_
        refine hp_z (pc' := 90) (e := k - k / 2 * 2) (st' := [.int y2]) rfl rfl rfl ?_
        intro z3 hz3
        have ez3 := i_rem hz3 (show k.toInt = k.toInt from rfl) (show (2 : Int32).toInt = 2 from by decide) (by decide)
        refine hp_s (pc' := 91) (st' := [.int 1, .int z3, .int y2]) rfl rfl rfl ?_
        refine hp_ic (pc' := 94) (t := 107) (a := (k.toInt % 2)) (b := 1) rfl rfl rfl (by omega) (by decide) (fun (h9 : (k.toInt % 2) ≠ 1) => ?_) (fun (h10 : ¬ ((k.toInt % 2) ≠ 1)) => ?_)
        ·
          refine hp_s (pc' := 108) (st' := [.int 0, .int y2]) rfl rfl rfl ?_
          refine hp_z (pc' := 109) (e := y2 ^^^ 0) (st' := []) rfl rfl rfl ?_
          intro z4 hz4
          have vB : z4 = aM p q.toInt.toNat k.toInt := by
            rw [hz4, h8]
            unfold aM mS
            first
            | rw [if_pos (by omega)]; congr 1; congr 1; omega
            | rw [if_neg (by omega)]
            | exfalso; omega
          have cB : 0 ≤ z4.toInt ∧ z4.toInt < 64 := by rw [hz4]; first | exact xor_b bB.1 bB.2 (e67 _).1 (e67 _).2 | exact xor_b bB.1 bB.2 (by decide) (by decide)
          refine hp_s (pc' := 111) (ls' := [(7, .int z4), (6, .int z2), (5, .int q), (4, .int x), (3, .int c), (0, .ref 66), (1, .int k), (2, .int mo)]) (st' := []) rfl rfl rfl ?_
          refine hp_s (pc' := 112) (st' := [.int c]) rfl rfl rfl ?_
          refine hp_s (pc' := 113) (st' := [.ref 66, .int c]) rfl rfl rfl ?_
          refine hp_s (pc' := 115) (st' := [.int z2, .ref 66, .int c]) rfl rfl rfl ?_
          refine hp_s (pc' := 117) (st' := [.int z4, .int z2, .ref 66, .int c]) rfl rfl rfl ?_
          refine hp_s (pc' := 118) (st' := [.ref 66, .int z4, .int z2, .ref 66, .int c]) rfl rfl rfl ?_
          refine hp_getr (k := 7) (w := .ref 71) (pc' := 121) rfl rfl rfl rfl rfl ?_
          refine hp_s (pc' := 123) (st' := [.int x, .ref 71, .int z4, .int z2, .ref 66, .int c]) rfl rfl rfl ?_
          refine hp_ld (t := 100) (v := (rI p 71 x.toInt.toNat)) rfl (.inl rfl) rfl rfl rfl ?_
          intro (g1a : 0 ≤ x.toInt) (g1b : x.toInt < 7)
          have b71 := (e71 x.toInt.toNat).1
          refine hp_cs (kd := 0) (as := [.int (rI p 71 x.toInt.toNat)]) (rest := [.int z4, .int z2, .ref 66, .int c]) (pc' := 127) rfl rfl rfl rfl rfl rfl rfl (fun d3 => ?_)
          refine s_hatBit (xi := (rI p 71 x.toInt.toNat).toInt) rfl (by first | assumption | omega) ?_
          intro y3 h11
          skip
          refine hp_id (st := [.int y3, .int z4, .int z2, .ref 66, .int c]) ?_
          refine hp_s (pc' := 128) (st' := [.ref 66, .int y3, .int z4, .int z2, .ref 66, .int c]) rfl rfl rfl ?_
          refine hp_getr (k := 7) (w := .ref 71) (pc' := 131) rfl rfl rfl rfl rfl ?_
          refine hp_s (pc' := 133) (st' := [.int q, .ref 71, .int y3, .int z4, .int z2, .ref 66, .int c]) rfl rfl rfl ?_
          refine hp_ld (t := 100) (v := (rI p 71 q.toInt.toNat)) rfl (.inl rfl) rfl rfl rfl ?_
          intro (g2a : 0 ≤ q.toInt) (g2b : q.toInt < 7)
          have b72 := (e71 q.toInt.toNat).1
          refine hp_cs (kd := 0) (as := [.int (rI p 71 q.toInt.toNat)]) (rest := [.int y3, .int z4, .int z2, .ref 66, .int c]) (pc' := 137) rfl rfl rfl rfl rfl rfl rfl (fun d4 => ?_)
          refine s_hatBit (xi := (rI p 71 q.toInt.toNat).toInt) rfl (by first | assumption | omega) ?_
          intro y4 h12
          skip
          refine hp_id (st := [.int y4, .int y3, .int z4, .int z2, .ref 66, .int c]) ?_
          refine hp_z (pc' := 138) (e := y3 + y4) (st' := [.int z4, .int z2, .ref 66, .int c]) rfl rfl rfl ?_
          intro z5 hz5
          have ez5 := i_add hz5 (show y3.toInt = y3.toInt from rfl) (show y4.toInt = y4.toInt from rfl)
          refine hp_s (pc' := 139) (st' := [.int mo, .int z5, .int z4, .int z2, .ref 66, .int c]) rfl rfl rfl ?_
          refine hp_cv (r := 66) (o := 12) (kd := 1) (as := [.int z2, .int z4, .int z5, .int mo]) (rest := [.int c]) (pc' := 142) rfl rfl rfl rfl rfl rfl rfl rfl rfl (fun d5 => ?_)
          refine s_areAlike lo (xi := z2.toInt) rfl (yi := z4.toInt) rfl (hi := z5.toInt) rfl (mi := mo.toInt) rfl (by first | assumption | omega) (by first | assumption | omega) (by first | assumption | omega) (by first | assumption | omega) (by first | assumption | omega) ?_ ?_
          ·
            intro p1 h13 h14
            have hmo : mo = Int32.ofInt (((rI p 67 22).toInt + k.toInt) % 12) := Int32.toInt_inj.mp (by rw [Int32.toInt_ofInt_of_le (by omega) (by omega), hm, e22])
            rw [vA, vB, hz5, hmo] at h14
            rw [h11, h12] at h14
            have hq : Mmo p0 lo k.toInt x.toInt.toNat q.toInt.toNat := by rw [← eM]; exact h14
            refine hp_id (st := [.int 1, .int c]) ?_
            refine hp_go (pc' := 145) rfl rfl rfl ?_
            refine hp_s (pc' := 146) (st' := [.int 1, .int c]) rfl rfl rfl ?_
            refine hp_go (pc' := 150) rfl rfl rfl ?_
            refine hp_z (pc' := 151) (e := c + 1) (st' := []) rfl rfl rfl ?_
            intro z6 hz6
            have ez6 := i_add hz6 (show c.toInt = c.toInt from rfl) (show (1 : Int32).toInt = 1 from by decide)
            refine hp_s (pc' := 152) (ls' := [(3, .int z6), (7, .int z4), (6, .int z2), (5, .int q), (4, .int x), (0, .ref 66), (1, .int k), (2, .int mo)]) (st' := []) rfl rfl rfl ?_
            refine hp_inc (L := fun z_ => [(5, .int z_), (3, .int z6), (7, .int z4), (6, .int z2), (4, .int x), (0, .ref 66), (1, .int k), (2, .int mo)]) (pc' := 155) rfl rfl rfl (fun _ => rfl) rfl ?_
            intro z7 hz7
            have ez7 := i_add hz7 (show q.toInt = q.toInt from rfl) (show (Int32.ofInt 1).toInt = 1 from by decide)
            refine hp_go (pc' := 44) rfl rfl rfl ?_
            refine hp_ls (ls' := [(5, .int z7), (4, .int x), (3, .int z6), (6, .int z2), (7, .int z4), (0, .ref 66), (1, .int k), (2, .int mo)]) rfl rfl ⟨rfl, rfl, rfl, rfl, rfl, rfl, rfl, rfl, trivial⟩ ?_
            have hs : cS (fun q => cI (q < x.toInt.toNat ∧ (Mmo p0 lo k.toInt) x.toInt.toNat q)) z7.toInt.toNat = cS (fun q => cI (q < x.toInt.toNat ∧ (Mmo p0 lo k.toInt) x.toInt.toNat q)) q.toInt.toNat + 1 := by rw [show z7.toInt.toNat = q.toInt.toNat + 1 by omega]; show _ + cI _ = _; rw [cI_1 ⟨by omega, hq⟩]
            exact ih (by omega) z7 z6 z2 z4 _ (by omega) (by omega) (by omega) (hN.trans h13)
          ·
            intro p2 h15 h16
            have hmo : mo = Int32.ofInt (((rI p 67 22).toInt + k.toInt) % 12) := Int32.toInt_inj.mp (by rw [Int32.toInt_ofInt_of_le (by omega) (by omega), hm, e22])
            rw [vA, vB, hz5, hmo] at h16
            rw [h11, h12] at h16
            have hq : ¬ Mmo p0 lo k.toInt x.toInt.toNat q.toInt.toNat := by rw [← eM]; exact h16
            refine hp_id (st := [.int 0, .int c]) ?_
            refine hp_go (pc' := 149) rfl rfl rfl ?_
            refine hp_s (pc' := 150) (st' := [.int 0, .int c]) rfl rfl rfl ?_
            refine hp_z (pc' := 151) (e := c + 0) (st' := []) rfl rfl rfl ?_
            intro z8 hz8
            have ez8 := i_add hz8 (show c.toInt = c.toInt from rfl) (show (0 : Int32).toInt = 0 from by decide)
            refine hp_s (pc' := 152) (ls' := [(3, .int z8), (7, .int z4), (6, .int z2), (5, .int q), (4, .int x), (0, .ref 66), (1, .int k), (2, .int mo)]) (st' := []) rfl rfl rfl ?_
            refine hp_inc (L := fun z_ => [(5, .int z_), (3, .int z8), (7, .int z4), (6, .int z2), (4, .int x), (0, .ref 66), (1, .int k), (2, .int mo)]) (pc' := 155) rfl rfl rfl (fun _ => rfl) rfl ?_
            intro z9 hz9
            have ez9 := i_add hz9 (show q.toInt = q.toInt from rfl) (show (Int32.ofInt 1).toInt = 1 from by decide)
            refine hp_go (pc' := 44) rfl rfl rfl ?_
            refine hp_ls (ls' := [(5, .int z9), (4, .int x), (3, .int z8), (6, .int z2), (7, .int z4), (0, .ref 66), (1, .int k), (2, .int mo)]) rfl rfl ⟨rfl, rfl, rfl, rfl, rfl, rfl, rfl, rfl, trivial⟩ ?_
            have hs : cS (fun q => cI (q < x.toInt.toNat ∧ (Mmo p0 lo k.toInt) x.toInt.toNat q)) z9.toInt.toNat = cS (fun q => cI (q < x.toInt.toNat ∧ (Mmo p0 lo k.toInt) x.toInt.toNat q)) q.toInt.toNat + 0 := by rw [show z9.toInt.toNat = q.toInt.toNat + 1 by omega]; show _ + cI _ = _; rw [cI_0 (fun z => absurd z.2 hq)]
            exact ih (by omega) z9 z8 z2 z4 _ (by omega) (by omega) (by omega) (hN.trans h15)
        ·
          refine hp_s (pc' := 95) (st' := [.ref 66, .int y2]) rfl rfl rfl ?_
          refine hp_getr (k := 0) (w := .ref 67) (pc' := 98) rfl rfl rfl rfl rfl ?_
          refine hp_s (pc' := 100) (st' := [.int 14, .ref 67, .int y2]) rfl rfl rfl ?_
          refine hp_s (pc' := 102) (st' := [.int q, .int 14, .ref 67, .int y2]) rfl rfl rfl ?_
          refine hp_z (pc' := 103) (e := 14 + q) (st' := [.ref 67, .int y2]) rfl rfl rfl ?_
          intro z10 hz10
          have ez10 := i_add hz10 (show (14 : Int32).toInt = 14 from by decide) (show q.toInt = q.toInt from rfl)
          refine hp_ld (t := 100) (v := (rI p 67 z10.toInt.toNat)) rfl (.inl rfl) rfl rfl rfl ?_
          intro (g3a : 0 ≤ z10.toInt) (g3b : z10.toInt < 23)
          refine hp_go (pc' := 108) rfl rfl rfl ?_
          refine hp_z (pc' := 109) (e := y2 ^^^ (rI p 67 z10.toInt.toNat)) (st' := []) rfl rfl rfl ?_
          intro z11 hz11
          have vB : z11 = aM p q.toInt.toNat k.toInt := by
            rw [hz11, h8]
            unfold aM mS
            first
            | rw [if_pos (by omega)]; congr 1; congr 1; omega
            | rw [if_neg (by omega)]
            | exfalso; omega
          have cB : 0 ≤ z11.toInt ∧ z11.toInt < 64 := by rw [hz11]; first | exact xor_b bB.1 bB.2 (e67 _).1 (e67 _).2 | exact xor_b bB.1 bB.2 (by decide) (by decide)
          refine hp_s (pc' := 111) (ls' := [(7, .int z11), (6, .int z2), (5, .int q), (4, .int x), (3, .int c), (0, .ref 66), (1, .int k), (2, .int mo)]) (st' := []) rfl rfl rfl ?_
          refine hp_s (pc' := 112) (st' := [.int c]) rfl rfl rfl ?_
          refine hp_s (pc' := 113) (st' := [.ref 66, .int c]) rfl rfl rfl ?_
          refine hp_s (pc' := 115) (st' := [.int z2, .ref 66, .int c]) rfl rfl rfl ?_
          refine hp_s (pc' := 117) (st' := [.int z11, .int z2, .ref 66, .int c]) rfl rfl rfl ?_
          refine hp_s (pc' := 118) (st' := [.ref 66, .int z11, .int z2, .ref 66, .int c]) rfl rfl rfl ?_
          refine hp_getr (k := 7) (w := .ref 71) (pc' := 121) rfl rfl rfl rfl rfl ?_
          refine hp_s (pc' := 123) (st' := [.int x, .ref 71, .int z11, .int z2, .ref 66, .int c]) rfl rfl rfl ?_
          refine hp_ld (t := 100) (v := (rI p 71 x.toInt.toNat)) rfl (.inl rfl) rfl rfl rfl ?_
          intro (g4a : 0 ≤ x.toInt) (g4b : x.toInt < 7)
          have b71 := (e71 x.toInt.toNat).1
          refine hp_cs (kd := 0) (as := [.int (rI p 71 x.toInt.toNat)]) (rest := [.int z11, .int z2, .ref 66, .int c]) (pc' := 127) rfl rfl rfl rfl rfl rfl rfl (fun d6 => ?_)
          refine s_hatBit (xi := (rI p 71 x.toInt.toNat).toInt) rfl (by first | assumption | omega) ?_
          intro y5 h17
          skip
          refine hp_id (st := [.int y5, .int z11, .int z2, .ref 66, .int c]) ?_
          refine hp_s (pc' := 128) (st' := [.ref 66, .int y5, .int z11, .int z2, .ref 66, .int c]) rfl rfl rfl ?_
          refine hp_getr (k := 7) (w := .ref 71) (pc' := 131) rfl rfl rfl rfl rfl ?_
          refine hp_s (pc' := 133) (st' := [.int q, .ref 71, .int y5, .int z11, .int z2, .ref 66, .int c]) rfl rfl rfl ?_
          refine hp_ld (t := 100) (v := (rI p 71 q.toInt.toNat)) rfl (.inl rfl) rfl rfl rfl ?_
          intro (g5a : 0 ≤ q.toInt) (g5b : q.toInt < 7)
          have b72 := (e71 q.toInt.toNat).1
          refine hp_cs (kd := 0) (as := [.int (rI p 71 q.toInt.toNat)]) (rest := [.int y5, .int z11, .int z2, .ref 66, .int c]) (pc' := 137) rfl rfl rfl rfl rfl rfl rfl (fun d7 => ?_)
          refine s_hatBit (xi := (rI p 71 q.toInt.toNat).toInt) rfl (by first | assumption | omega) ?_
          intro y6 h18
          skip
          refine hp_id (st := [.int y6, .int y5, .int z11, .int z2, .ref 66, .int c]) ?_
          refine hp_z (pc' := 138) (e := y5 + y6) (st' := [.int z11, .int z2, .ref 66, .int c]) rfl rfl rfl ?_
          intro z12 hz12
          have ez12 := i_add hz12 (show y5.toInt = y5.toInt from rfl) (show y6.toInt = y6.toInt from rfl)
          refine hp_s (pc' := 139) (st' := [.int mo, .int z12, .int z11, .int z2, .ref 66, .int c]) rfl rfl rfl ?_
          refine hp_cv (r := 66) (o := 12) (kd := 1) (as := [.int z2, .int z11, .int z12, .int mo]) (rest := [.int c]) (pc' := 142) rfl rfl rfl rfl rfl rfl rfl rfl rfl (fun d8 => ?_)
          refine s_areAlike lo (xi := z2.toInt) rfl (yi := z11.toInt) rfl (hi := z12.toInt) rfl (mi := mo.toInt) rfl (by first | assumption | omega) (by first | assumption | omega) (by first | assumption | omega) (by first | assumption | omega) (by first | assumption | omega) ?_ ?_
          ·
            intro p3 h19 h20
            have hmo : mo = Int32.ofInt (((rI p 67 22).toInt + k.toInt) % 12) := Int32.toInt_inj.mp (by rw [Int32.toInt_ofInt_of_le (by omega) (by omega), hm, e22])
            rw [vA, vB, hz12, hmo] at h20
            rw [h17, h18] at h20
            have hq : Mmo p0 lo k.toInt x.toInt.toNat q.toInt.toNat := by rw [← eM]; exact h20
            refine hp_id (st := [.int 1, .int c]) ?_
            refine hp_go (pc' := 145) rfl rfl rfl ?_
            refine hp_s (pc' := 146) (st' := [.int 1, .int c]) rfl rfl rfl ?_
            refine hp_go (pc' := 150) rfl rfl rfl ?_
            refine hp_z (pc' := 151) (e := c + 1) (st' := []) rfl rfl rfl ?_
            intro z13 hz13
            have ez13 := i_add hz13 (show c.toInt = c.toInt from rfl) (show (1 : Int32).toInt = 1 from by decide)
            refine hp_s (pc' := 152) (ls' := [(3, .int z13), (7, .int z11), (6, .int z2), (5, .int q), (4, .int x), (0, .ref 66), (1, .int k), (2, .int mo)]) (st' := []) rfl rfl rfl ?_
            refine hp_inc (L := fun z_ => [(5, .int z_), (3, .int z13), (7, .int z11), (6, .int z2), (4, .int x), (0, .ref 66), (1, .int k), (2, .int mo)]) (pc' := 155) rfl rfl rfl (fun _ => rfl) rfl ?_
            intro z14 hz14
            have ez14 := i_add hz14 (show q.toInt = q.toInt from rfl) (show (Int32.ofInt 1).toInt = 1 from by decide)
            refine hp_go (pc' := 44) rfl rfl rfl ?_
            refine hp_ls (ls' := [(5, .int z14), (4, .int x), (3, .int z13), (6, .int z2), (7, .int z11), (0, .ref 66), (1, .int k), (2, .int mo)]) rfl rfl ⟨rfl, rfl, rfl, rfl, rfl, rfl, rfl, rfl, trivial⟩ ?_
            have hs : cS (fun q => cI (q < x.toInt.toNat ∧ (Mmo p0 lo k.toInt) x.toInt.toNat q)) z14.toInt.toNat = cS (fun q => cI (q < x.toInt.toNat ∧ (Mmo p0 lo k.toInt) x.toInt.toNat q)) q.toInt.toNat + 1 := by rw [show z14.toInt.toNat = q.toInt.toNat + 1 by omega]; show _ + cI _ = _; rw [cI_1 ⟨by omega, hq⟩]
            exact ih (by omega) z14 z13 z2 z11 _ (by omega) (by omega) (by omega) (hN.trans h19)
          ·
            intro p4 h21 h22
            have hmo : mo = Int32.ofInt (((rI p 67 22).toInt + k.toInt) % 12) := Int32.toInt_inj.mp (by rw [Int32.toInt_ofInt_of_le (by omega) (by omega), hm, e22])
            rw [vA, vB, hz12, hmo] at h22
            rw [h17, h18] at h22
            have hq : ¬ Mmo p0 lo k.toInt x.toInt.toNat q.toInt.toNat := by rw [← eM]; exact h22
            refine hp_id (st := [.int 0, .int c]) ?_
            refine hp_go (pc' := 149) rfl rfl rfl ?_
            refine hp_s (pc' := 150) (st' := [.int 0, .int c]) rfl rfl rfl ?_
            refine hp_z (pc' := 151) (e := c + 0) (st' := []) rfl rfl rfl ?_
            intro z15 hz15
            have ez15 := i_add hz15 (show c.toInt = c.toInt from rfl) (show (0 : Int32).toInt = 0 from by decide)
            refine hp_s (pc' := 152) (ls' := [(3, .int z15), (7, .int z11), (6, .int z2), (5, .int q), (4, .int x), (0, .ref 66), (1, .int k), (2, .int mo)]) (st' := []) rfl rfl rfl ?_
            refine hp_inc (L := fun z_ => [(5, .int z_), (3, .int z15), (7, .int z11), (6, .int z2), (4, .int x), (0, .ref 66), (1, .int k), (2, .int mo)]) (pc' := 155) rfl rfl rfl (fun _ => rfl) rfl ?_
            intro z16 hz16
            have ez16 := i_add hz16 (show q.toInt = q.toInt from rfl) (show (Int32.ofInt 1).toInt = 1 from by decide)
            refine hp_go (pc' := 44) rfl rfl rfl ?_
            refine hp_ls (ls' := [(5, .int z16), (4, .int x), (3, .int z15), (6, .int z2), (7, .int z11), (0, .ref 66), (1, .int k), (2, .int mo)]) rfl rfl ⟨rfl, rfl, rfl, rfl, rfl, rfl, rfl, rfl, trivial⟩ ?_
            have hs : cS (fun q => cI (q < x.toInt.toNat ∧ (Mmo p0 lo k.toInt) x.toInt.toNat q)) z16.toInt.toNat = cS (fun q => cI (q < x.toInt.toNat ∧ (Mmo p0 lo k.toInt) x.toInt.toNat q)) q.toInt.toNat + 0 := by rw [show z16.toInt.toNat = q.toInt.toNat + 1 by omega]; show _ + cI _ = _; rw [cI_0 (fun z => absurd z.2 hq)]
            exact ih (by omega) z16 z15 z2 z11 _ (by omega) (by omega) (by omega) (hN.trans h21)
      ·
        refine hp_s (pc' := 65) (st' := [.ref 66, .int y1]) rfl rfl rfl ?_
        refine hp_getr (k := 0) (w := .ref 67) (pc' := 68) rfl rfl rfl rfl rfl ?_
        refine hp_s (pc' := 70) (st' := [.int 14, .ref 67, .int y1]) rfl rfl rfl ?_
        refine hp_s (pc' := 72) (st' := [.int x, .int 14, .ref 67, .int y1]) rfl rfl rfl ?_
        refine hp_z (pc' := 73) (e := 14 + x) (st' := [.ref 67, .int y1]) rfl rfl rfl ?_
        intro z17 hz17
        have ez17 := i_add hz17 (show (14 : Int32).toInt = 14 from by decide) (show x.toInt = x.toInt from rfl)
        refine hp_ld (t := 100) (v := (rI p 67 z17.toInt.toNat)) rfl (.inl rfl) rfl rfl rfl ?_
        intro (g6a : 0 ≤ z17.toInt) (g6b : z17.toInt < 23)
        refine hp_go (pc' := 78) rfl rfl rfl ?_
        refine hp_z (pc' := 79) (e := y1 ^^^ (rI p 67 z17.toInt.toNat)) (st' := []) rfl rfl rfl ?_
        intro z18 hz18
        have vA : z18 = aM p x.toInt.toNat k.toInt := by
          rw [hz18, h4]
          unfold aM mS
          first
          | rw [if_pos (by omega)]; congr 1; congr 1; omega
          | rw [if_neg (by omega)]
          | exfalso; omega
        have cA : 0 ≤ z18.toInt ∧ z18.toInt < 64 := by rw [hz18]; first | exact xor_b bA.1 bA.2 (e67 _).1 (e67 _).2 | exact xor_b bA.1 bA.2 (by decide) (by decide)
        refine hp_s (pc' := 81) (ls' := [(6, .int z18), (5, .int q), (4, .int x), (3, .int c), (7, .int b), (0, .ref 66), (1, .int k), (2, .int mo)]) (st' := []) rfl rfl rfl ?_
        refine hp_s (pc' := 82) (st' := [.ref 66]) rfl rfl rfl ?_
        refine hp_s (pc' := 84) (st' := [.int q, .ref 66]) rfl rfl rfl ?_
        refine hp_cv (r := 66) (o := 12) (kd := 1) (as := [.int q]) (rest := []) (pc' := 87) rfl rfl rfl rfl rfl rfl rfl rfl rfl (fun d9 => ?_)
        refine s_seenOf (xi := q.toInt) rfl ?_
        intro y7 h23 h24
        have bB : 0 ≤ y7.toInt ∧ y7.toInt < 64 := by rw [h24]; exact hSn_b (e67 _).1 (e67 _).2 (e71 _).2
        refine hp_id (st := [.int y7]) ?_
        refine hp_s (pc' := 88) (st' := [.int k, .int y7]) rfl rfl rfl ?_
        refine hp_s (pc' := 89) (st' := [.int 2, .int k, .int y7]) rfl rfl rfl ?_
        refine hp_z (pc' := 90) (e := k - k / 2 * 2) (st' := [.int y7]) rfl rfl rfl ?_
        intro z19 hz19
        have ez19 := i_rem hz19 (show k.toInt = k.toInt from rfl) (show (2 : Int32).toInt = 2 from by decide) (by decide)
        refine hp_s (pc' := 91) (st' := [.int 1, .int z19, .int y7]) rfl rfl rfl ?_
        refine hp_ic (pc' := 94) (t := 107) (a := (k.toInt % 2)) (b := 1) rfl rfl rfl (by omega) (by decide) (fun (h25 : (k.toInt % 2) ≠ 1) => ?_) (fun (h26 : ¬ ((k.toInt % 2) ≠ 1)) => ?_)
        ·
          refine hp_s (pc' := 108) (st' := [.int 0, .int y7]) rfl rfl rfl ?_
          refine hp_z (pc' := 109) (e := y7 ^^^ 0) (st' := []) rfl rfl rfl ?_
          intro z20 hz20
          have vB : z20 = aM p q.toInt.toNat k.toInt := by
            rw [hz20, h24]
            unfold aM mS
            first
            | rw [if_pos (by omega)]; congr 1; congr 1; omega
            | rw [if_neg (by omega)]
            | exfalso; omega
          have cB : 0 ≤ z20.toInt ∧ z20.toInt < 64 := by rw [hz20]; first | exact xor_b bB.1 bB.2 (e67 _).1 (e67 _).2 | exact xor_b bB.1 bB.2 (by decide) (by decide)
          refine hp_s (pc' := 111) (ls' := [(7, .int z20), (6, .int z18), (5, .int q), (4, .int x), (3, .int c), (0, .ref 66), (1, .int k), (2, .int mo)]) (st' := []) rfl rfl rfl ?_
          refine hp_s (pc' := 112) (st' := [.int c]) rfl rfl rfl ?_
          refine hp_s (pc' := 113) (st' := [.ref 66, .int c]) rfl rfl rfl ?_
          refine hp_s (pc' := 115) (st' := [.int z18, .ref 66, .int c]) rfl rfl rfl ?_
          refine hp_s (pc' := 117) (st' := [.int z20, .int z18, .ref 66, .int c]) rfl rfl rfl ?_
          refine hp_s (pc' := 118) (st' := [.ref 66, .int z20, .int z18, .ref 66, .int c]) rfl rfl rfl ?_
          refine hp_getr (k := 7) (w := .ref 71) (pc' := 121) rfl rfl rfl rfl rfl ?_
          refine hp_s (pc' := 123) (st' := [.int x, .ref 71, .int z20, .int z18, .ref 66, .int c]) rfl rfl rfl ?_
          refine hp_ld (t := 100) (v := (rI p 71 x.toInt.toNat)) rfl (.inl rfl) rfl rfl rfl ?_
          intro (g7a : 0 ≤ x.toInt) (g7b : x.toInt < 7)
          have b71 := (e71 x.toInt.toNat).1
          refine hp_cs (kd := 0) (as := [.int (rI p 71 x.toInt.toNat)]) (rest := [.int z20, .int z18, .ref 66, .int c]) (pc' := 127) rfl rfl rfl rfl rfl rfl rfl (fun d10 => ?_)
          refine s_hatBit (xi := (rI p 71 x.toInt.toNat).toInt) rfl (by first | assumption | omega) ?_
          intro y8 h27
          skip
          refine hp_id (st := [.int y8, .int z20, .int z18, .ref 66, .int c]) ?_
          refine hp_s (pc' := 128) (st' := [.ref 66, .int y8, .int z20, .int z18, .ref 66, .int c]) rfl rfl rfl ?_
          refine hp_getr (k := 7) (w := .ref 71) (pc' := 131) rfl rfl rfl rfl rfl ?_
          refine hp_s (pc' := 133) (st' := [.int q, .ref 71, .int y8, .int z20, .int z18, .ref 66, .int c]) rfl rfl rfl ?_
          refine hp_ld (t := 100) (v := (rI p 71 q.toInt.toNat)) rfl (.inl rfl) rfl rfl rfl ?_
          intro (g8a : 0 ≤ q.toInt) (g8b : q.toInt < 7)
          have b72 := (e71 q.toInt.toNat).1
          refine hp_cs (kd := 0) (as := [.int (rI p 71 q.toInt.toNat)]) (rest := [.int y8, .int z20, .int z18, .ref 66, .int c]) (pc' := 137) rfl rfl rfl rfl rfl rfl rfl (fun d11 => ?_)
          refine s_hatBit (xi := (rI p 71 q.toInt.toNat).toInt) rfl (by first | assumption | omega) ?_
          intro y9 h28
          skip
          refine hp_id (st := [.int y9, .int y8, .int z20, .int z18, .ref 66, .int c]) ?_
          refine hp_z (pc' := 138) (e := y8 + y9) (st' := [.int z20, .int z18, .ref 66, .int c]) rfl rfl rfl ?_
          intro z21 hz21
          have ez21 := i_add hz21 (show y8.toInt = y8.toInt from rfl) (show y9.toInt = y9.toInt from rfl)
          refine hp_s (pc' := 139) (st' := [.int mo, .int z21, .int z20, .int z18, .ref 66, .int c]) rfl rfl rfl ?_
          refine hp_cv (r := 66) (o := 12) (kd := 1) (as := [.int z18, .int z20, .int z21, .int mo]) (rest := [.int c]) (pc' := 142) rfl rfl rfl rfl rfl rfl rfl rfl rfl (fun d12 => ?_)
          refine s_areAlike lo (xi := z18.toInt) rfl (yi := z20.toInt) rfl (hi := z21.toInt) rfl (mi := mo.toInt) rfl (by first | assumption | omega) (by first | assumption | omega) (by first | assumption | omega) (by first | assumption | omega) (by first | assumption | omega) ?_ ?_
          ·
            intro p5 h29 h30
            have hmo : mo = Int32.ofInt (((rI p 67 22).toInt + k.toInt) % 12) := Int32.toInt_inj.mp (by rw [Int32.toInt_ofInt_of_le (by omega) (by omega), hm, e22])
            rw [vA, vB, hz21, hmo] at h30
            rw [h27, h28] at h30
            have hq : Mmo p0 lo k.toInt x.toInt.toNat q.toInt.toNat := by rw [← eM]; exact h30
            refine hp_id (st := [.int 1, .int c]) ?_
            refine hp_go (pc' := 145) rfl rfl rfl ?_
            refine hp_s (pc' := 146) (st' := [.int 1, .int c]) rfl rfl rfl ?_
            refine hp_go (pc' := 150) rfl rfl rfl ?_
            refine hp_z (pc' := 151) (e := c + 1) (st' := []) rfl rfl rfl ?_
            intro z22 hz22
            have ez22 := i_add hz22 (show c.toInt = c.toInt from rfl) (show (1 : Int32).toInt = 1 from by decide)
            refine hp_s (pc' := 152) (ls' := [(3, .int z22), (7, .int z20), (6, .int z18), (5, .int q), (4, .int x), (0, .ref 66), (1, .int k), (2, .int mo)]) (st' := []) rfl rfl rfl ?_
            refine hp_inc (L := fun z_ => [(5, .int z_), (3, .int z22), (7, .int z20), (6, .int z18), (4, .int x), (0, .ref 66), (1, .int k), (2, .int mo)]) (pc' := 155) rfl rfl rfl (fun _ => rfl) rfl ?_
            intro z23 hz23
            have ez23 := i_add hz23 (show q.toInt = q.toInt from rfl) (show (Int32.ofInt 1).toInt = 1 from by decide)
            refine hp_go (pc' := 44) rfl rfl rfl ?_
            refine hp_ls (ls' := [(5, .int z23), (4, .int x), (3, .int z22), (6, .int z18), (7, .int z20), (0, .ref 66), (1, .int k), (2, .int mo)]) rfl rfl ⟨rfl, rfl, rfl, rfl, rfl, rfl, rfl, rfl, trivial⟩ ?_
            have hs : cS (fun q => cI (q < x.toInt.toNat ∧ (Mmo p0 lo k.toInt) x.toInt.toNat q)) z23.toInt.toNat = cS (fun q => cI (q < x.toInt.toNat ∧ (Mmo p0 lo k.toInt) x.toInt.toNat q)) q.toInt.toNat + 1 := by rw [show z23.toInt.toNat = q.toInt.toNat + 1 by omega]; show _ + cI _ = _; rw [cI_1 ⟨by omega, hq⟩]
            exact ih (by omega) z23 z22 z18 z20 _ (by omega) (by omega) (by omega) (hN.trans h29)
          ·
            intro p6 h31 h32
            have hmo : mo = Int32.ofInt (((rI p 67 22).toInt + k.toInt) % 12) := Int32.toInt_inj.mp (by rw [Int32.toInt_ofInt_of_le (by omega) (by omega), hm, e22])
            rw [vA, vB, hz21, hmo] at h32
            rw [h27, h28] at h32
            have hq : ¬ Mmo p0 lo k.toInt x.toInt.toNat q.toInt.toNat := by rw [← eM]; exact h32
            refine hp_id (st := [.int 0, .int c]) ?_
            refine hp_go (pc' := 149) rfl rfl rfl ?_
            refine hp_s (pc' := 150) (st' := [.int 0, .int c]) rfl rfl rfl ?_
            refine hp_z (pc' := 151) (e := c + 0) (st' := []) rfl rfl rfl ?_
            intro z24 hz24
            have ez24 := i_add hz24 (show c.toInt = c.toInt from rfl) (show (0 : Int32).toInt = 0 from by decide)
            refine hp_s (pc' := 152) (ls' := [(3, .int z24), (7, .int z20), (6, .int z18), (5, .int q), (4, .int x), (0, .ref 66), (1, .int k), (2, .int mo)]) (st' := []) rfl rfl rfl ?_
            refine hp_inc (L := fun z_ => [(5, .int z_), (3, .int z24), (7, .int z20), (6, .int z18), (4, .int x), (0, .ref 66), (1, .int k), (2, .int mo)]) (pc' := 155) rfl rfl rfl (fun _ => rfl) rfl ?_
            intro z25 hz25
            have ez25 := i_add hz25 (show q.toInt = q.toInt from rfl) (show (Int32.ofInt 1).toInt = 1 from by decide)
            refine hp_go (pc' := 44) rfl rfl rfl ?_
            refine hp_ls (ls' := [(5, .int z25), (4, .int x), (3, .int z24), (6, .int z18), (7, .int z20), (0, .ref 66), (1, .int k), (2, .int mo)]) rfl rfl ⟨rfl, rfl, rfl, rfl, rfl, rfl, rfl, rfl, trivial⟩ ?_
            have hs : cS (fun q => cI (q < x.toInt.toNat ∧ (Mmo p0 lo k.toInt) x.toInt.toNat q)) z25.toInt.toNat = cS (fun q => cI (q < x.toInt.toNat ∧ (Mmo p0 lo k.toInt) x.toInt.toNat q)) q.toInt.toNat + 0 := by rw [show z25.toInt.toNat = q.toInt.toNat + 1 by omega]; show _ + cI _ = _; rw [cI_0 (fun z => absurd z.2 hq)]
            exact ih (by omega) z25 z24 z18 z20 _ (by omega) (by omega) (by omega) (hN.trans h31)
        ·
          refine hp_s (pc' := 95) (st' := [.ref 66, .int y7]) rfl rfl rfl ?_
          refine hp_getr (k := 0) (w := .ref 67) (pc' := 98) rfl rfl rfl rfl rfl ?_
          refine hp_s (pc' := 100) (st' := [.int 14, .ref 67, .int y7]) rfl rfl rfl ?_
          refine hp_s (pc' := 102) (st' := [.int q, .int 14, .ref 67, .int y7]) rfl rfl rfl ?_
          refine hp_z (pc' := 103) (e := 14 + q) (st' := [.ref 67, .int y7]) rfl rfl rfl ?_
          intro z26 hz26
          have ez26 := i_add hz26 (show (14 : Int32).toInt = 14 from by decide) (show q.toInt = q.toInt from rfl)
          refine hp_ld (t := 100) (v := (rI p 67 z26.toInt.toNat)) rfl (.inl rfl) rfl rfl rfl ?_
          intro (g9a : 0 ≤ z26.toInt) (g9b : z26.toInt < 23)
          refine hp_go (pc' := 108) rfl rfl rfl ?_
          refine hp_z (pc' := 109) (e := y7 ^^^ (rI p 67 z26.toInt.toNat)) (st' := []) rfl rfl rfl ?_
          intro z27 hz27
          have vB : z27 = aM p q.toInt.toNat k.toInt := by
            rw [hz27, h24]
            unfold aM mS
            first
            | rw [if_pos (by omega)]; congr 1; congr 1; omega
            | rw [if_neg (by omega)]
            | exfalso; omega
          have cB : 0 ≤ z27.toInt ∧ z27.toInt < 64 := by rw [hz27]; first | exact xor_b bB.1 bB.2 (e67 _).1 (e67 _).2 | exact xor_b bB.1 bB.2 (by decide) (by decide)
          refine hp_s (pc' := 111) (ls' := [(7, .int z27), (6, .int z18), (5, .int q), (4, .int x), (3, .int c), (0, .ref 66), (1, .int k), (2, .int mo)]) (st' := []) rfl rfl rfl ?_
          refine hp_s (pc' := 112) (st' := [.int c]) rfl rfl rfl ?_
          refine hp_s (pc' := 113) (st' := [.ref 66, .int c]) rfl rfl rfl ?_
          refine hp_s (pc' := 115) (st' := [.int z18, .ref 66, .int c]) rfl rfl rfl ?_
          refine hp_s (pc' := 117) (st' := [.int z27, .int z18, .ref 66, .int c]) rfl rfl rfl ?_
          refine hp_s (pc' := 118) (st' := [.ref 66, .int z27, .int z18, .ref 66, .int c]) rfl rfl rfl ?_
          refine hp_getr (k := 7) (w := .ref 71) (pc' := 121) rfl rfl rfl rfl rfl ?_
          refine hp_s (pc' := 123) (st' := [.int x, .ref 71, .int z27, .int z18, .ref 66, .int c]) rfl rfl rfl ?_
          refine hp_ld (t := 100) (v := (rI p 71 x.toInt.toNat)) rfl (.inl rfl) rfl rfl rfl ?_
          intro (g10a : 0 ≤ x.toInt) (g10b : x.toInt < 7)
          have b71 := (e71 x.toInt.toNat).1
          refine hp_cs (kd := 0) (as := [.int (rI p 71 x.toInt.toNat)]) (rest := [.int z27, .int z18, .ref 66, .int c]) (pc' := 127) rfl rfl rfl rfl rfl rfl rfl (fun d13 => ?_)
          refine s_hatBit (xi := (rI p 71 x.toInt.toNat).toInt) rfl (by first | assumption | omega) ?_
          intro y10 h33
          skip
          refine hp_id (st := [.int y10, .int z27, .int z18, .ref 66, .int c]) ?_
          refine hp_s (pc' := 128) (st' := [.ref 66, .int y10, .int z27, .int z18, .ref 66, .int c]) rfl rfl rfl ?_
          refine hp_getr (k := 7) (w := .ref 71) (pc' := 131) rfl rfl rfl rfl rfl ?_
          refine hp_s (pc' := 133) (st' := [.int q, .ref 71, .int y10, .int z27, .int z18, .ref 66, .int c]) rfl rfl rfl ?_
          refine hp_ld (t := 100) (v := (rI p 71 q.toInt.toNat)) rfl (.inl rfl) rfl rfl rfl ?_
          intro (g11a : 0 ≤ q.toInt) (g11b : q.toInt < 7)
          have b72 := (e71 q.toInt.toNat).1
          refine hp_cs (kd := 0) (as := [.int (rI p 71 q.toInt.toNat)]) (rest := [.int y10, .int z27, .int z18, .ref 66, .int c]) (pc' := 137) rfl rfl rfl rfl rfl rfl rfl (fun d14 => ?_)
          refine s_hatBit (xi := (rI p 71 q.toInt.toNat).toInt) rfl (by first | assumption | omega) ?_
          intro y11 h34
          skip
          refine hp_id (st := [.int y11, .int y10, .int z27, .int z18, .ref 66, .int c]) ?_
          refine hp_z (pc' := 138) (e := y10 + y11) (st' := [.int z27, .int z18, .ref 66, .int c]) rfl rfl rfl ?_
          intro z28 hz28
          have ez28 := i_add hz28 (show y10.toInt = y10.toInt from rfl) (show y11.toInt = y11.toInt from rfl)
          refine hp_s (pc' := 139) (st' := [.int mo, .int z28, .int z27, .int z18, .ref 66, .int c]) rfl rfl rfl ?_
          refine hp_cv (r := 66) (o := 12) (kd := 1) (as := [.int z18, .int z27, .int z28, .int mo]) (rest := [.int c]) (pc' := 142) rfl rfl rfl rfl rfl rfl rfl rfl rfl (fun d15 => ?_)
          refine s_areAlike lo (xi := z18.toInt) rfl (yi := z27.toInt) rfl (hi := z28.toInt) rfl (mi := mo.toInt) rfl (by first | assumption | omega) (by first | assumption | omega) (by first | assumption | omega) (by first | assumption | omega) (by first | assumption | omega) ?_ ?_
          ·
            intro p7 h35 h36
            have hmo : mo = Int32.ofInt (((rI p 67 22).toInt + k.toInt) % 12) := Int32.toInt_inj.mp (by rw [Int32.toInt_ofInt_of_le (by omega) (by omega), hm, e22])
            rw [vA, vB, hz28, hmo] at h36
            rw [h33, h34] at h36
            have hq : Mmo p0 lo k.toInt x.toInt.toNat q.toInt.toNat := by rw [← eM]; exact h36
            refine hp_id (st := [.int 1, .int c]) ?_
            refine hp_go (pc' := 145) rfl rfl rfl ?_
            refine hp_s (pc' := 146) (st' := [.int 1, .int c]) rfl rfl rfl ?_
            refine hp_go (pc' := 150) rfl rfl rfl ?_
            refine hp_z (pc' := 151) (e := c + 1) (st' := []) rfl rfl rfl ?_
            intro z29 hz29
            have ez29 := i_add hz29 (show c.toInt = c.toInt from rfl) (show (1 : Int32).toInt = 1 from by decide)
            refine hp_s (pc' := 152) (ls' := [(3, .int z29), (7, .int z27), (6, .int z18), (5, .int q), (4, .int x), (0, .ref 66), (1, .int k), (2, .int mo)]) (st' := []) rfl rfl rfl ?_
            refine hp_inc (L := fun z_ => [(5, .int z_), (3, .int z29), (7, .int z27), (6, .int z18), (4, .int x), (0, .ref 66), (1, .int k), (2, .int mo)]) (pc' := 155) rfl rfl rfl (fun _ => rfl) rfl ?_
            intro z30 hz30
            have ez30 := i_add hz30 (show q.toInt = q.toInt from rfl) (show (Int32.ofInt 1).toInt = 1 from by decide)
            refine hp_go (pc' := 44) rfl rfl rfl ?_
            refine hp_ls (ls' := [(5, .int z30), (4, .int x), (3, .int z29), (6, .int z18), (7, .int z27), (0, .ref 66), (1, .int k), (2, .int mo)]) rfl rfl ⟨rfl, rfl, rfl, rfl, rfl, rfl, rfl, rfl, trivial⟩ ?_
            have hs : cS (fun q => cI (q < x.toInt.toNat ∧ (Mmo p0 lo k.toInt) x.toInt.toNat q)) z30.toInt.toNat = cS (fun q => cI (q < x.toInt.toNat ∧ (Mmo p0 lo k.toInt) x.toInt.toNat q)) q.toInt.toNat + 1 := by rw [show z30.toInt.toNat = q.toInt.toNat + 1 by omega]; show _ + cI _ = _; rw [cI_1 ⟨by omega, hq⟩]
            exact ih (by omega) z30 z29 z18 z27 _ (by omega) (by omega) (by omega) (hN.trans h35)
          ·
            intro p8 h37 h38
            have hmo : mo = Int32.ofInt (((rI p 67 22).toInt + k.toInt) % 12) := Int32.toInt_inj.mp (by rw [Int32.toInt_ofInt_of_le (by omega) (by omega), hm, e22])
            rw [vA, vB, hz28, hmo] at h38
            rw [h33, h34] at h38
            have hq : ¬ Mmo p0 lo k.toInt x.toInt.toNat q.toInt.toNat := by rw [← eM]; exact h38
            refine hp_id (st := [.int 0, .int c]) ?_
            refine hp_go (pc' := 149) rfl rfl rfl ?_
            refine hp_s (pc' := 150) (st' := [.int 0, .int c]) rfl rfl rfl ?_
            refine hp_z (pc' := 151) (e := c + 0) (st' := []) rfl rfl rfl ?_
            intro z31 hz31
            have ez31 := i_add hz31 (show c.toInt = c.toInt from rfl) (show (0 : Int32).toInt = 0 from by decide)
            refine hp_s (pc' := 152) (ls' := [(3, .int z31), (7, .int z27), (6, .int z18), (5, .int q), (4, .int x), (0, .ref 66), (1, .int k), (2, .int mo)]) (st' := []) rfl rfl rfl ?_
            refine hp_inc (L := fun z_ => [(5, .int z_), (3, .int z31), (7, .int z27), (6, .int z18), (4, .int x), (0, .ref 66), (1, .int k), (2, .int mo)]) (pc' := 155) rfl rfl rfl (fun _ => rfl) rfl ?_
            intro z32 hz32
            have ez32 := i_add hz32 (show q.toInt = q.toInt from rfl) (show (Int32.ofInt 1).toInt = 1 from by decide)
            refine hp_go (pc' := 44) rfl rfl rfl ?_
            refine hp_ls (ls' := [(5, .int z32), (4, .int x), (3, .int z31), (6, .int z18), (7, .int z27), (0, .ref 66), (1, .int k), (2, .int mo)]) rfl rfl ⟨rfl, rfl, rfl, rfl, rfl, rfl, rfl, rfl, trivial⟩ ?_
            have hs : cS (fun q => cI (q < x.toInt.toNat ∧ (Mmo p0 lo k.toInt) x.toInt.toNat q)) z32.toInt.toNat = cS (fun q => cI (q < x.toInt.toNat ∧ (Mmo p0 lo k.toInt) x.toInt.toNat q)) q.toInt.toNat + 0 := by rw [show z32.toInt.toNat = q.toInt.toNat + 1 by omega]; show _ + cI _ = _; rw [cI_0 (fun z => absurd z.2 hq)]
            exact ih (by omega) z32 z31 z18 z27 _ (by omega) (by omega) (by omega) (hN.trans h37)
theorem lp_247a {ro : List (List Int32)} {d : Nat} {Q : Option Value → xH → Prop} {p0 : xH} {lo : Option (List yN)} {k mo : Int32} {N : Nat} (g0 : lMo p0 lo) (g1 : ∀ j, 0 ≤ (rI p0 67 j).toInt ∧ (rI p0 67 j).toInt < 64) (g2 : ∀ j, -1 ≤ (rI p0 71 j).toInt ∧ (rI p0 71 j).toInt < 6) (g3 : 0 ≤ (rI p0 66 6).toInt) (g4 : (rI p0 66 6).toInt ≤ 7) (g5 : 1 ≤ k.toInt) (g6 : k.toInt ≤ 12) (hm : mo.toInt = ((rI p0 67 22).toInt + k.toInt) % 12) (gb : 0 ≤ (rI p0 67 22).toInt) (K : ∀ m : Nat, m ≤ N → ∀ (x c q a b : Int32) (p2 : xH), (x.toInt = (rI p0 66 6).toInt) → (c.toInt = cS (fun x => cS (fun q => cI (q < x ∧ (Mmo p0 lo k.toInt) x q)) (rI p0 66 6).toInt.toNat) x.toInt.toNat) → (hNt T_aa p0 p2) → hP ro m d (12, 8, 1, 1, k247) 164 [(4, .int x), (3, .int c), (5, .int q), (6, .int a), (7, .int b), (0, .ref 66), (1, .int k), (2, .int mo)] [] p2 Q) : ∀ (n : Nat) (hn : n ≤ N) (x : Int32) (c : Int32) (q : Int32) (a : Int32) (b : Int32) (p : xH), (0 ≤ x.toInt) → (x.toInt ≤ (rI p0 66 6).toInt) → (c.toInt = cS (fun x => cS (fun q => cI (q < x ∧ (Mmo p0 lo k.toInt) x q)) (rI p0 66 6).toInt.toNat) x.toInt.toNat) → (hNt T_aa p0 p) → hP ro n d (12, 8, 1, 1, k247) 32 [(4, .int x), (3, .int c), (5, .int q), (6, .int a), (7, .int b), (0, .ref 66), (1, .int k), (2, .int mo)] [] p Q := by
  intro n
  induction n with
  | zero => intros; exact hp_0
  | succ n ih =>
    intro hn x c q a b p h1 h2 hc hN
    refine hp_hw (fun wp => ?_)
    have e6 : (rI p 66 6).toInt = (rI p0 66 6).toInt := by rw [hN.int (r := 66) (k := 6) rfl]
    have hlo : lMo p lo := lMo_nt hN rfl (fun _ => rfl) g0
    have e67 : ∀ j, 0 ≤ (rI p 67 j).toInt ∧ (rI p 67 j).toInt < 64 := fun j => by rw [hN.int (r := 67) rfl]; exact g1 j
    have e71 : ∀ j, -1 ≤ (rI p 71 j).toInt ∧ (rI p 71 j).toInt < 6 := fun j => by rw [hN.int (r := 71) rfl]; exact g2 j
    have eM : Mmo p lo = Mmo p0 lo := Mmo_sm (hN.sm (by decide))
    have e22 : (rI p 67 22).toInt = (rI p0 67 22).toInt := by rw [hN.int (r := 67) rfl]
    have hcb := cS_b (f := fun x => cS (fun q => cI (q < x ∧ (Mmo p0 lo k.toInt) x q)) (rI p0 66 6).toInt.toNat) (c := 7) (fun x => by have q := cS_b (f := fun q => cI (q < x ∧ (Mmo p0 lo k.toInt) x q)) (c := 1) (fun k => cI_b _) (rI p0 66 6).toInt.toNat; omega) x.toInt.toNat
    have hx8 : x.toInt.toNat ≤ 7 := by omega
    have hc2b := cS_b (f := fun q => cI (q < x.toInt.toNat ∧ (Mmo p0 lo k.toInt) x.toInt.toNat q)) (c := 1) (fun k => cI_b _) (rI p0 66 6).toInt.toNat
    refine hp_s1 (pc' := 34) (st' := [.int x]) rfl rfl rfl ?_
    refine hp_s (pc' := 35) (st' := [.ref 66, .int x]) rfl rfl rfl ?_
    refine hp_get (k := 6) (pc' := 38) (v := (rI p 66 6)) rfl rfl rfl rfl rfl rfl ?_
    refine hp_ic (pc' := 41) (t := 164) (a := x.toInt) (b := (rI p 66 6).toInt) rfl rfl rfl rfl rfl (fun (h1 : (rI p 66 6).toInt ≤ x.toInt) => ?_) (fun (h2 : ¬ ((rI p 66 6).toInt ≤ x.toInt)) => ?_)
    ·
      exact K n (by omega) _ _ _ _ _ _ (by omega) hc hN
    ·
      refine hp_s (pc' := 42) (st' := [.int 0]) rfl rfl rfl ?_
      refine hp_s (pc' := 44) (ls' := [(5, .int 0), (4, .int x), (3, .int c), (6, .int a), (7, .int b), (0, .ref 66), (1, .int k), (2, .int mo)]) (st' := []) rfl rfl rfl ?_
      refine lp_247b (N := n) (x := x) (k := k) (mo := mo) (C := c.toInt) g0 g1 g2 g3 g4 g5 g6 h1 (by omega) hm gb (by omega) (fun m0 hm0 q c2_ a2 b2 p2 j1 j2 j3 => ?_) n (Nat.le_refl _) 0 c a b p (by decide) (by have h00 : (0 : Int32).toInt = 0 := (by decide); omega) (by rw [i_ofz]; exact (Int.add_zero _).symm) hN
      refine hp_inc (L := fun z_ => [(4, .int z_), (5, .int q), (3, .int c2_), (6, .int a2), (7, .int b2), (0, .ref 66), (1, .int k), (2, .int mo)]) (pc' := 161) rfl rfl rfl (fun _ => rfl) rfl ?_
      intro z1 hz1
      have ez1 := i_add hz1 (show x.toInt = x.toInt from rfl) (show (Int32.ofInt 1).toInt = 1 from by decide)
      refine hp_go (pc' := 32) rfl rfl rfl ?_
      refine hp_ls (ls' := [(4, .int z1), (3, .int c2_), (5, .int q), (6, .int a2), (7, .int b2), (0, .ref 66), (1, .int k), (2, .int mo)]) rfl rfl ⟨rfl, rfl, rfl, rfl, rfl, rfl, rfl, rfl, trivial⟩ ?_
      have hs : cS (fun x => cS (fun q => cI (q < x ∧ (Mmo p0 lo k.toInt) x q)) (rI p0 66 6).toInt.toNat) z1.toInt.toNat = cS (fun x => cS (fun q => cI (q < x ∧ (Mmo p0 lo k.toInt) x q)) (rI p0 66 6).toInt.toNat) x.toInt.toNat + cS (fun q => cI (q < x.toInt.toNat ∧ (Mmo p0 lo k.toInt) x.toInt.toNat q)) (rI p0 66 6).toInt.toNat := by rw [show z1.toInt.toNat = x.toInt.toNat + 1 by omega]; rfl
      have hq : cS (fun q => cI (q < x.toInt.toNat ∧ (Mmo p0 lo k.toInt) x.toInt.toNat q)) (rI p0 66 6).toInt.toNat = cS (fun q => cI (q < x.toInt.toNat ∧ (Mmo p0 lo k.toInt) x.toInt.toNat q)) q.toInt.toNat := by rw [j1]; exact cS_tail (by omega) (fun k hk => cI_0 (fun z => absurd z.1 (by omega)))
      exact hp_le hm0 (ih (by omega) z1 c2_ q a2 b2 _ (by omega) (by omega) (by omega) j3)
theorem M_months {ro : List (List Int32)} {n d : Nat} {p : xH} {Q : Option Value → xH → Prop} (lo : Option (List yN)) {k : Int32} {ki : Int} (hk : k.toInt = ki) (pre0 : lMo p lo) (pre1 : ∀ j, 0 ≤ (rI p 67 j).toInt ∧ (rI p 67 j).toInt < 64) (pre2 : ∀ j, -1 ≤ (rI p 71 j).toInt ∧ (rI p 71 j).toInt < 6) (pre3 : 0 ≤ (rI p 66 6).toInt) (pre4 : (rI p 66 6).toInt ≤ 7) (k0 : (¬ (1 ≤ ki ∧ ki ≤ 12)) → Q (some (.int (-1))) p) (k1 : ∀ z : Int32, ∀ p2 : xH, (hNt T_aa p p2) → (1 ≤ ki) → (ki ≤ 12) → (z.toInt = cP (Mmo p lo ki) (rI p 66 6).toInt.toNat) → Q (some (.int z)) p2) : hP ro n d (12, 8, 1, 1, k247) 0 (lv_args 0 [.ref 66, .int k]) [] p Q := by
  subst hk
  refine hp_id (ls := [(0, .ref 66), (1, .int k)]) ?_
  have b22 := pre1 22
  refine hp_s (pc' := 1) (st' := [.int k]) rfl rfl rfl ?_
  refine hp_i2l (pc' := 2) rfl rfl ?_
  intro z1 hz1 ez1
  refine hp_s (pc' := 3) (st' := [.long 1, .long z1]) rfl rfl rfl ?_
  refine hp_s (pc' := 6) (st' := [.long 12, .long 1, .long z1]) rfl rfl rfl ?_
  refine hp_cs (kd := 0) (as := [.long z1, .long 1, .long 12]) (rest := []) (pc' := 9) rfl rfl rfl rfl rfl rfl rfl (fun d1 => ?_)
  refine s_within (vi := k.toInt) ez1 (ai := 1) (by decide) (bi := 12) (by decide) ?_ ?_
  ·
    intro h1 h2
    refine hp_id (st := [.int 1]) ?_
    refine hp_go (pc' := 14) rfl rfl rfl ?_
    refine hp_s (pc' := 15) (st' := [.ref 66]) rfl rfl rfl ?_
    refine hp_getr (k := 0) (w := .ref 67) (pc' := 18) rfl rfl rfl rfl rfl ?_
    refine hp_s (pc' := 20) (st' := [.int 22, .ref 67]) rfl rfl rfl ?_
    refine hp_ld (t := 100) (v := (rI p 67 22)) rfl (.inl rfl) rfl rfl rfl ?_
    intro (g1a : 0 ≤ (22 : Int32).toInt) (g1b : (22 : Int32).toInt < 23)
    refine hp_s (pc' := 22) (st' := [.int k, .int (rI p 67 22)]) rfl rfl rfl ?_
    refine hp_z (pc' := 23) (e := (rI p 67 22) + k) (st' := []) rfl rfl rfl ?_
    intro z2 hz2
    have ez2 := i_add hz2 (show (rI p 67 22).toInt = (rI p 67 22).toInt from rfl) (show k.toInt = k.toInt from rfl)
    refine hp_s (pc' := 25) (st' := [.int 12, .int z2]) rfl rfl rfl ?_
    refine hp_z (pc' := 26) (e := z2 - z2 / 12 * 12) (st' := []) rfl rfl rfl ?_
    intro z3 hz3
    have ez3 := i_rem hz3 (show z2.toInt = z2.toInt from rfl) (show (12 : Int32).toInt = 12 from by decide) (by decide)
    refine hp_s (pc' := 27) (ls' := [(2, .int z3), (0, .ref 66), (1, .int k)]) (st' := []) rfl rfl rfl ?_
    refine hp_s (pc' := 28) (st' := [.int 0]) rfl rfl rfl ?_
    refine hp_s (pc' := 29) (ls' := [(3, .int 0), (2, .int z3), (0, .ref 66), (1, .int k)]) (st' := []) rfl rfl rfl ?_
    refine hp_s (pc' := 30) (st' := [.int 0]) rfl rfl rfl ?_
    refine hp_s (pc' := 32) (ls' := [(4, .int 0), (3, .int 0), (2, .int z3), (0, .ref 66), (1, .int k)]) (st' := []) rfl rfl rfl ?_
    refine hp_ls (ls' := [(4, .int 0), (3, .int 0), (5, .int 0), (6, .int 0), (7, .int 0), (0, .ref 66), (1, .int k), (2, .int z3)]) rfl rfl ⟨rfl, rfl, rfl, rfl, rfl, trivial⟩ ?_
    refine lp_247a (p0 := p) (N := n) (k := k) (mo := z3) pre0 pre1 pre2 pre3 pre4 (by omega) (by omega) (by omega) (pre1 22).1 (fun m0 hm0 x c q a b p2 j1 j2 j3 => ?_) n (Nat.le_refl _) 0 0 0 0 0 p (by decide) (by have h00 : (0 : Int32).toInt = 0 := (by decide); omega) (by rw [i_ofz]; rfl) (hNt.refl _ _)
    refine hp_s (pc' := 165) (st' := [.int c]) rfl rfl rfl ?_
    refine hp_ri rfl rfl ?_
    refine k1 _ _ j3 (by omega) (by omega) ?_
    rw [j2, j1]
    exact cP_g (fun _ _ => Mmo_c) _
  ·
    intro h3
    refine hp_id (st := [.int 0]) ?_
    refine hp_go (pc' := 12) rfl rfl rfl ?_
    refine hp_s (pc' := 13) (st' := [.int (-1)]) rfl rfl rfl ?_
    refine hp_ri rfl rfl ?_
    exact k0 (by omega)
