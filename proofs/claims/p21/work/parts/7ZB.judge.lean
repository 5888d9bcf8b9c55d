/-! contracts of methods, walked -/
/-- nobody ahead of (x, y) -/
def j2N (S : Nat) (P : Nat → Nat → Prop) (x y : Nat) : Prop := ∀ a b : Nat, a < b → b < S → P a b → 10 * x + y ≤ 10 * a + b
theorem j2_0 {S : Nat} {P : Nat → Nat → Prop} : j2N S P 0 0 := fun a b _ _ _ => by omega
theorem j2_in {S : Nat} {P : Nat → Nat → Prop} {x : Nat} (hS : S ≤ 7) (hx : x < 7) (h : j2N S P x 0) : j2N S P x (x + 1) := fun a b h1 h2 h3 => by
  have := h a b h1 h2 h3
  omega
theorem j2_y {S : Nat} {P : Nat → Nat → Prop} {x y : Nat} (hS : S ≤ 7) (hx : x < 7) (hy : y < 7) (h : j2N S P x y) (hp : ¬ P x y) : j2N S P x (y + 1) := fun a b h1 h2 h3 => by
  have := h a b h1 h2 h3
  by_cases g : 10 * a + b = 10 * x + y
  · have g1 : a = x := by omega
    have g2 : b = y := by omega
    rw [g1, g2] at h3
    exact absurd h3 hp
  · omega
theorem j2_x {S : Nat} {P : Nat → Nat → Prop} {x y : Nat} (hS : S ≤ 7) (hy : S ≤ y) (h : j2N S P x y) : j2N S P (x + 1) 0 := fun a b h1 h2 h3 => by
  have := h a b h1 h2 h3
  omega
theorem j2_skip {S : Nat} {P : Nat → Nat → Prop} {x : Nat} (hS : S ≤ 7) (hp : ∀ y, ¬ P x y) (h : j2N S P x 0) : j2N S P (x + 1) 0 := fun a b h1 h2 h3 => by
  have := h a b h1 h2 h3
  by_cases g : a = x
  · rw [g] at h3; exact absurd h3 (hp b)
  · omega
theorem j2_end {S : Nat} {P : Nat → Nat → Prop} {x : Nat} (hS : S ≤ 7) (hx : S ≤ x) (h : j2N S P x 0) : ∀ a b : Nat, a < b → b < S → ¬ P a b := fun a b h1 h2 h3 => by
  have := h a b h1 h2 h3
  omega
def hJ2 (S : Nat) (P : Nat → Nat → Prop) (r : Int) : Prop := (∃ x y : Nat, x < y ∧ y < S ∧ P x y ∧ r = 10 * x + y ∧ j2N S P x y) ∨ ((∀ x y : Nat, x < y → y < S → ¬ P x y) ∧ r = -2)
theorem hJ2_no {S : Nat} {P : Nat → Nat → Prop} {r : Int} (h : hJ2 S P r) (e : r = -2) : ∀ x y : Nat, x < y → y < S → ¬ P x y := by
  rcases h with ⟨x, y, a, b, c, d, e2⟩ | ⟨a, b⟩
  · exfalso; omega
  · exact a
theorem hJ2_ex {S : Nat} {P : Nat → Nat → Prop} {r : Int} (h : hJ2 S P r) (e : r ≠ -2) : ∃ x y : Nat, x < y ∧ y < S ∧ P x y ∧ r = 10 * x + y ∧ j2N S P x y := by
  rcases h with h | ⟨a, b⟩
  · exact h
  · exact absurd b e
def hJ (S : Nat) (P : Nat → Nat → Nat → Prop) (r : Int) : Prop := (∃ v x y : Nat, v < 30 ∧ x < y ∧ y < S ∧ P v x y ∧ r = 100 * v + 10 * x + y ∧ (∀ m a b : Nat, m < v → a < b → b < S → ¬ P m a b) ∧ j2N S (P v) x y) ∨ ((∀ m a b : Nat, m < 30 → a < b → b < S → ¬ P m a b) ∧ r = -2)
theorem hJ_b {S : Nat} {P : Nat → Nat → Nat → Prop} {r : Int} (hS : S ≤ 7) (h : hJ S P r) : r = -2 ∨ (0 ≤ r ∧ r < 3000) := by
  rcases h with ⟨v, x, y, a, b, c, d, e, f⟩ | ⟨a, b⟩
  · right; omega
  · left; exact b
theorem hJ_one {S : Nat} {P P' : Nat → Nat → Nat → Prop} {r s : Int} (e : ∀ v x y : Nat, v < 30 → x < y → y < S → (P v x y ↔ P' v x y)) (h : hJ S P r) (g : hJ S P' s) : r = s := by
  rcases h with ⟨v, x, y, a1, a2, a3, a4, a5, a6, a7⟩ | ⟨a1, a2⟩ <;> rcases g with ⟨w, x', y', b1, b2, b3, b4, b5, b6, b7⟩ | ⟨b1, b2⟩
  · rcases Nat.lt_trichotomy v w with h | h | h
    · exact absurd ((e v x y a1 a2 a3).mp a4) (b6 v x y h a2 a3)
    · subst h
      have c1 := b7 x y a2 a3 ((e v x y a1 a2 a3).mp a4)
      have c2 := a7 x' y' b2 b3 ((e v x' y' b1 b2 b3).mpr b4)
      omega
    · exact absurd ((e w x' y' b1 b2 b3).mpr b4) (a6 w x' y' h b2 b3)
  · exact absurd ((e v x y a1 a2 a3).mp a4) (b1 v x y a1 a2 a3)
  · exact absurd ((e w x' y' b1 b2 b3).mpr b4) (a1 w x' y' b1 b2 b3)
  · rw [a2, b2]
/-- the day, as it is told: two who are alike in one street -/
def tDy (p : xH) (r : Nat) (A : Nat → Nat → Prop) (v x y : Nat) : Prop := (rI p r (30 * x + v)).toInt ≠ -1 ∧ (rI p r (30 * x + v)).toInt = (rI p r (30 * y + v)).toInt ∧ A x y
theorem tDy_e {p p2 : xH} {r : Nat} {A : Nat → Nat → Prop} (h : ∀ j, rI p2 r j = rI p r j) : tDy p2 r A = tDy p r A := by
  funext v x y
  unfold tDy
  rw [h, h]
def jSel (w c : Int) : Int := if c < 0 then -2 else if w = 0 then c / 100 else if w = 1 then c / 10 % 10 else c % 10
theorem lp_82b {ro : List (List Int32)} {d : Nat} {Q : Option Value → xH → Prop} {S : Nat} {A : Nat → Nat → Prop} {v x t : Int32} {p : xH} {N : Nat} (hS : (rI p 13 7).toInt = (S : Int)) (hS7 : S ≤ 7) (hR : ∀ n, n < S → hLk A S n (rI p 33 n)) (hv : 0 ≤ v.toInt) (hv2 : v.toInt < 30) (hx1 : 0 ≤ x.toInt) (hx2 : x.toInt < S) (ht : t = rI p 3 (30 * x.toInt.toNat + v.toInt.toNat)) (ht1 : t.toInt ≠ -1) (KR : ∀ z : Int32, hJ2 S (tDy p 3 A v.toInt.toNat) z.toInt → Q (some (.int z)) p) (K : ∀ m : Nat, m ≤ N → ∀ (y u : Int32) (p2 : xH), (p = p2) → (S ≤ y.toInt) → (j2N S (tDy p 3 A v.toInt.toNat) x.toInt.toNat y.toInt.toNat) → hP ro m d (7, 6, 1, 1, k82) 106 [(4, .int y), (3, .int t), (2, .int x), (5, .int u), (0, .ref 49), (1, .int v)] [] p2 Q) : ∀ (n : Nat) (hn : n ≤ N) (y : Int32) (u : Int32), (x.toInt < y.toInt) → (y.toInt ≤ S) → (j2N S (tDy p 3 A v.toInt.toNat) x.toInt.toNat y.toInt.toNat) → hP ro n d (7, 6, 1, 1, k82) 36 [(4, .int y), (3, .int t), (2, .int x), (5, .int u), (0, .ref 49), (1, .int v)] [] p Q := by
  intro n
  induction n with
  | zero => intros; exact hp_0
  | succ n ih =>
    intro hn y u hy1 hy2 hj
    refine hp_s1 (pc' := 38) (st' := [.int y]) rfl rfl rfl ?_
    refine hp_s (pc' := 39) (st' := [.ref 49, .int y]) rfl rfl rfl ?_
    refine hp_getr (k := 1) (w := .ref 13) (pc' := 42) rfl rfl rfl rfl rfl ?_
    refine hp_get (k := 7) (pc' := 45) (v := (rI p 13 7)) rfl rfl rfl rfl rfl rfl ?_
    refine hp_ic (pc' := 48) (t := 106) (a := y.toInt) (b := (rI p 13 7).toInt) rfl rfl rfl rfl rfl (fun (h1 : (rI p 13 7).toInt ≤ y.toInt) => ?_) (fun (h2 : ¬ ((rI p 13 7).toInt ≤ y.toInt)) => ?_)
    ·
      exact K n (by omega) _ _ _ rfl (by omega) hj
    ·
      refine hp_s (pc' := 49) (st' := [.ref 49]) rfl rfl rfl ?_
      refine hp_getr (k := 2) (w := .ref 32) (pc' := 52) rfl rfl rfl rfl rfl ?_
      refine hp_getr (k := 2) (w := .ref 33) (pc' := 55) rfl rfl rfl rfl rfl ?_
      refine hp_s (pc' := 56) (st' := [.int x, .ref 33]) rfl rfl rfl ?_
      refine hp_ld (t := 100) (v := (rI p 33 x.toInt.toNat)) rfl (.inl rfl) rfl rfl rfl ?_
      intro (g1a : 0 ≤ x.toInt) (g1b : x.toInt < 7)
      refine hp_s (pc' := 59) (st' := [.int y, .int (rI p 33 x.toInt.toNat)]) rfl rfl rfl ?_
      refine hp_z (pc' := 60) (e := (rI p 33 x.toInt.toNat) >>> (y &&& 31)) (st' := []) rfl rfl rfl ?_
      intro z1 hz1
      refine hp_s (pc' := 61) (st' := [.int 1, .int z1]) rfl rfl rfl ?_
      refine hp_z (pc' := 62) (e := z1 &&& 1) (st' := []) rfl rfl rfl ?_
      intro z2 hz2
      have hbit : z2.toInt = if bI (rI p 33 x.toInt.toNat) y.toInt.toNat then 1 else 0 := by rw [hz2, hz1]; exact bI_at _ (by omega) (by omega)
      refine hp_s (pc' := 63) (st' := [.int 1, .int z2]) rfl rfl rfl ?_
      refine hp_ic (pc' := 66) (t := 70) (a := z2.toInt) (b := 1) rfl rfl rfl rfl (by decide) (fun (h3 : z2.toInt ≠ 1) => ?_) (fun (h4 : ¬ (z2.toInt ≠ 1)) => ?_)
      ·
        refine hp_s (pc' := 71) (st' := [.int 0]) rfl rfl rfl ?_
        refine hp_s (pc' := 73) (ls' := [(5, .int 0), (4, .int y), (3, .int t), (2, .int x), (0, .ref 49), (1, .int v)]) (st' := []) rfl rfl rfl ?_
        refine hp_s (pc' := 75) (st' := [.int 0]) rfl rfl rfl ?_
        refine hp_go (pc' := 100) rfl rfl rfl ?_
        refine hp_inc (L := fun z_ => [(4, .int z_), (5, .int 0), (3, .int t), (2, .int x), (0, .ref 49), (1, .int v)]) (pc' := 103) rfl rfl rfl (fun _ => rfl) rfl ?_
        intro z3 hz3
        have ez3 := i_add hz3 (show y.toInt = y.toInt from rfl) (show (Int32.ofInt 1).toInt = 1 from by decide)
        refine hp_go (pc' := 36) rfl rfl rfl ?_
        refine hp_ls (ls' := [(4, .int z3), (3, .int t), (2, .int x), (5, .int 0), (0, .ref 49), (1, .int v)]) rfl rfl ⟨rfl, rfl, rfl, rfl, rfl, rfl, trivial⟩ ?_
        refine ih (by omega) z3 (0 : Int32) (by omega) (by omega) ?_
        rw [show z3.toInt.toNat = y.toInt.toNat + 1 by omega]
        refine j2_y hS7 (by omega) (by omega) hj (fun g => ?_)
        have q := (hR x.toInt.toNat (by omega) y.toInt.toNat (by omega)).mpr ⟨by omega, by omega, g.2.2⟩
        rw [q, if_pos rfl] at hbit
        omega
      ·
        refine hp_s (pc' := 67) (st' := [.int 1]) rfl rfl rfl ?_
        refine hp_go (pc' := 71) rfl rfl rfl ?_
        refine hp_s (pc' := 73) (ls' := [(5, .int 1), (4, .int y), (3, .int t), (2, .int x), (0, .ref 49), (1, .int v)]) (st' := []) rfl rfl rfl ?_
        refine hp_s (pc' := 75) (st' := [.int 1]) rfl rfl rfl ?_
        refine hp_go (pc' := 78) rfl rfl rfl ?_
        refine hp_s (pc' := 79) (st' := [.ref 49]) rfl rfl rfl ?_
        refine hp_getr (k := 0) (w := .ref 1) (pc' := 82) rfl rfl rfl rfl rfl ?_
        refine hp_s (pc' := 84) (st' := [.int y, .ref 1]) rfl rfl rfl ?_
        refine hp_s (pc' := 85) (st' := [.int v, .int y, .ref 1]) rfl rfl rfl ?_
        refine hp_cv (r := 1) (o := 5) (kd := 1) (as := [.int y, .int v]) (rest := []) (pc' := 88) rfl rfl rfl rfl rfl rfl rfl rfl rfl (fun d1 => ?_)
        refine s_toldStreet (xi := y.toInt) rfl (mi := v.toInt) rfl (by first | assumption | omega) (by first | assumption | omega) (by first | assumption | omega) (by first | assumption | omega) ?_
        intro y1 h5
        refine hp_id (st := [.int y1]) ?_
        refine hp_s (pc' := 89) (st' := [.int t, .int y1]) rfl rfl rfl ?_
        refine hp_ic (pc' := 92) (t := 100) (a := y1.toInt) (b := t.toInt) rfl rfl rfl rfl rfl (fun (h6 : y1.toInt ≠ t.toInt) => ?_) (fun (h7 : ¬ (y1.toInt ≠ t.toInt)) => ?_)
        ·
          refine hp_inc (L := fun z_ => [(4, .int z_), (5, .int 1), (3, .int t), (2, .int x), (0, .ref 49), (1, .int v)]) (pc' := 103) rfl rfl rfl (fun _ => rfl) rfl ?_
          intro z4 hz4
          have ez4 := i_add hz4 (show y.toInt = y.toInt from rfl) (show (Int32.ofInt 1).toInt = 1 from by decide)
          refine hp_go (pc' := 36) rfl rfl rfl ?_
          refine hp_ls (ls' := [(4, .int z4), (3, .int t), (2, .int x), (5, .int 1), (0, .ref 49), (1, .int v)]) rfl rfl ⟨rfl, rfl, rfl, rfl, rfl, rfl, trivial⟩ ?_
          refine ih (by omega) z4 (1 : Int32) (by omega) (by omega) ?_
          rw [show z4.toInt.toNat = y.toInt.toNat + 1 by omega]
          refine j2_y hS7 (by omega) (by omega) hj (fun g => ?_)
          have q : (rI p 3 (30 * x.toInt.toNat + v.toInt.toNat)).toInt = (rI p 3 (30 * y.toInt.toNat + v.toInt.toNat)).toInt := g.2.1
          rw [← ht, ← h5] at q
          omega
        ·
          refine hp_s (pc' := 94) (st' := [.int 10]) rfl rfl rfl ?_
          refine hp_s (pc' := 95) (st' := [.int x, .int 10]) rfl rfl rfl ?_
          refine hp_z (pc' := 96) (e := 10 * x) (st' := []) rfl rfl rfl ?_
          intro z5 hz5
          have ez5 := i_mul hz5 (show (10 : Int32).toInt = 10 from by decide) (show x.toInt = x.toInt from rfl)
          refine hp_s (pc' := 98) (st' := [.int y, .int z5]) rfl rfl rfl ?_
          refine hp_z (pc' := 99) (e := z5 + y) (st' := []) rfl rfl rfl ?_
          intro z6 hz6
          have ez6 := i_add hz6 (show z5.toInt = z5.toInt from rfl) (show y.toInt = y.toInt from rfl)
          refine hp_ri rfl rfl ?_
          have qA := ((hR x.toInt.toNat (by omega) y.toInt.toNat (by omega)).mp (b_if (hbit.symm.trans (by omega)))).2.2
          refine KR _ (Or.inl ⟨x.toInt.toNat, y.toInt.toNat, by omega, by omega, ⟨?_, ?_, qA⟩, by omega, hj⟩)
          · rw [← ht]; exact ht1
          · rw [← ht, ← h5]; omega
theorem lp_82a {ro : List (List Int32)} {d : Nat} {Q : Option Value → xH → Prop} {S : Nat} {A : Nat → Nat → Prop} {v : Int32} {p : xH} (hS : (rI p 13 7).toInt = (S : Int)) (hS7 : S ≤ 7) (hR : ∀ n, n < S → hLk A S n (rI p 33 n)) (hv : 0 ≤ v.toInt) (hv2 : v.toInt < 30) (KR : ∀ z : Int32, hJ2 S (tDy p 3 A v.toInt.toNat) z.toInt → Q (some (.int z)) p) : ∀ (n : Nat) (x : Int32) (t : Int32) (y : Int32) (u : Int32), (0 ≤ x.toInt) → (x.toInt ≤ S) → (j2N S (tDy p 3 A v.toInt.toNat) x.toInt.toNat 0) → hP ro n d (7, 6, 1, 1, k82) 2 [(4, .int y), (3, .int t), (2, .int x), (5, .int u), (0, .ref 49), (1, .int v)] [] p Q := by
  intro n
  induction n with
  | zero => intros; exact hp_0
  | succ n ih =>
    intro x t y u hx1 hx2 hj
    refine hp_s1 (pc' := 3) (st' := [.int x]) rfl rfl rfl ?_
    refine hp_s (pc' := 4) (st' := [.ref 49, .int x]) rfl rfl rfl ?_
    refine hp_getr (k := 1) (w := .ref 13) (pc' := 7) rfl rfl rfl rfl rfl ?_
    refine hp_get (k := 7) (pc' := 10) (v := (rI p 13 7)) rfl rfl rfl rfl rfl rfl ?_
    refine hp_ic (pc' := 13) (t := 112) (a := x.toInt) (b := (rI p 13 7).toInt) rfl rfl rfl rfl rfl (fun (h1 : (rI p 13 7).toInt ≤ x.toInt) => ?_) (fun (h2 : ¬ ((rI p 13 7).toInt ≤ x.toInt)) => ?_)
    ·
      refine hp_s (pc' := 114) (st' := [.int (-2)]) rfl rfl rfl ?_
      refine hp_ri rfl rfl ?_
      exact KR (-2) (Or.inr ⟨j2_end hS7 (by omega) hj, by decide⟩)
    ·
      refine hp_s (pc' := 14) (st' := [.ref 49]) rfl rfl rfl ?_
      refine hp_getr (k := 0) (w := .ref 1) (pc' := 17) rfl rfl rfl rfl rfl ?_
      refine hp_s (pc' := 18) (st' := [.int x, .ref 1]) rfl rfl rfl ?_
      refine hp_s (pc' := 19) (st' := [.int v, .int x, .ref 1]) rfl rfl rfl ?_
      refine hp_cv (r := 1) (o := 5) (kd := 1) (as := [.int x, .int v]) (rest := []) (pc' := 22) rfl rfl rfl rfl rfl rfl rfl rfl rfl (fun d1 => ?_)
      refine s_toldStreet (xi := x.toInt) rfl (mi := v.toInt) rfl (by first | assumption | omega) (by first | assumption | omega) (by first | assumption | omega) (by first | assumption | omega) ?_
      intro y1 h3
      refine hp_id (st := [.int y1]) ?_
      refine hp_s (pc' := 23) (ls' := [(3, .int y1), (4, .int y), (2, .int x), (5, .int u), (0, .ref 49), (1, .int v)]) (st' := []) rfl rfl rfl ?_
      refine hp_s (pc' := 24) (st' := [.int y1]) rfl rfl rfl ?_
      refine hp_s (pc' := 25) (st' := [.int (-1), .int y1]) rfl rfl rfl ?_
      refine hp_ic (pc' := 28) (t := 31) (a := y1.toInt) (b := (-1)) rfl rfl rfl rfl (by decide) (fun (h4 : y1.toInt ≠ (-1)) => ?_) (fun (h5 : ¬ (y1.toInt ≠ (-1))) => ?_)
      ·
        refine hp_s (pc' := 32) (st' := [.int x]) rfl rfl rfl ?_
        refine hp_s (pc' := 33) (st' := [.int 1, .int x]) rfl rfl rfl ?_
        refine hp_z (pc' := 34) (e := x + 1) (st' := []) rfl rfl rfl ?_
        intro z1 hz1
        have ez1 := i_add hz1 (show x.toInt = x.toInt from rfl) (show (1 : Int32).toInt = 1 from by decide)
        refine hp_s (pc' := 36) (ls' := [(4, .int z1), (3, .int y1), (2, .int x), (5, .int u), (0, .ref 49), (1, .int v)]) (st' := []) rfl rfl rfl ?_
        refine lp_82b (N := n) (S := S) (A := A) (v := v) (x := x) (t := y1) hS hS7 hR hv hv2 hx1 (by omega) h3 (by omega) KR (fun m0 hm0 y u p2 e j1 j2 => ?_) n (Nat.le_refl _) z1 u (by omega) (by omega) (by rw [show z1.toInt.toNat = x.toInt.toNat + 1 by omega]; exact j2_in hS7 (by omega) hj)
        subst e
        refine hp_inc (L := fun z_ => [(2, .int z_), (4, .int y), (3, .int y1), (5, .int u), (0, .ref 49), (1, .int v)]) (pc' := 109) rfl rfl rfl (fun _ => rfl) rfl ?_
        intro z2 hz2
        have ez2 := i_add hz2 (show x.toInt = x.toInt from rfl) (show (Int32.ofInt 1).toInt = 1 from by decide)
        refine hp_go (pc' := 2) rfl rfl rfl ?_
        refine hp_ls (ls' := [(4, .int y), (3, .int y1), (2, .int z2), (5, .int u), (0, .ref 49), (1, .int v)]) rfl rfl ⟨rfl, rfl, rfl, rfl, rfl, rfl, trivial⟩ ?_
        exact hp_le hm0 (ih z2 y1 y u (by omega) (by omega) (by rw [show z2.toInt.toNat = x.toInt.toNat + 1 by omega]; exact j2_x hS7 (by omega) j2))
      ·
        refine hp_go (pc' := 106) rfl rfl rfl ?_
        refine hp_inc (L := fun z_ => [(2, .int z_), (3, .int y1), (4, .int y), (5, .int u), (0, .ref 49), (1, .int v)]) (pc' := 109) rfl rfl rfl (fun _ => rfl) rfl ?_
        intro z3 hz3
        have ez3 := i_add hz3 (show x.toInt = x.toInt from rfl) (show (Int32.ofInt 1).toInt = 1 from by decide)
        refine hp_go (pc' := 2) rfl rfl rfl ?_
        refine hp_ls (ls' := [(4, .int y), (3, .int y1), (2, .int z3), (5, .int u), (0, .ref 49), (1, .int v)]) rfl rfl ⟨rfl, rfl, rfl, rfl, rfl, rfl, trivial⟩ ?_
        exact ih z3 y1 y u (by omega) (by omega) (by rw [show z3.toInt.toNat = x.toInt.toNat + 1 by omega]; exact j2_skip hS7 (fun y g => g.1 (by rw [← h3]; omega)) hj)
theorem s_firstTwoIn {ro : List (List Int32)} {n d : Nat} {p : xH} {Q : Option Value → xH → Prop} (S : Nat) (A : Nat → Nat → Prop) {v : Int32} {vi : Int} (hv : v.toInt = vi) (pre0 : (rI p 13 7).toInt = (S : Int)) (pre1 : S ≤ 7) (pre2 : ∀ n, n < S → hLk A S n (rI p 33 n)) (pre3 : 0 ≤ vi) (pre4 : vi < 30) (k0 : ∀ z : Int32, (hJ2 S (tDy p 3 A vi.toNat) z.toInt) → Q (some (.int z)) p) : hP ro n d (7, 6, 1, 1, k82) 0 (lv_args 0 [.ref 49, .int v]) [] p Q := by
  subst hv
  refine hp_id (ls := [(0, .ref 49), (1, .int v)]) ?_
  refine hp_s (pc' := 1) (st' := [.int 0]) rfl rfl rfl ?_
  refine hp_s (pc' := 2) (ls' := [(2, .int 0), (0, .ref 49), (1, .int v)]) (st' := []) rfl rfl rfl ?_
  refine hp_ls (ls' := [(4, .int 0), (3, .int 0), (2, .int 0), (5, .int 0), (0, .ref 49), (1, .int v)]) rfl rfl ⟨rfl, rfl, rfl, trivial⟩ ?_
  exact lp_82a (S := S) (A := A) (v := v) pre0 pre1 pre2 pre3 pre4 k0 n 0 0 0 0 (by decide) (by have h00 : (0 : Int32).toInt = 0 := (by decide); omega) (by rw [i_ofz]; exact j2_0)
theorem lp_81 {ro : List (List Int32)} {d : Nat} {Q : Option Value → xH → Prop} {S : Nat} {A : Nat → Nat → Prop} {p : xH} (hS : (rI p 13 7).toInt = (S : Int)) (hS7 : S ≤ 7) (hR : ∀ n, n < S → hLk A S n (rI p 33 n)) (K : ∀ z : Int32, hJ S (tDy p 3 A) z.toInt → Q (some (.int z)) p) : ∀ (n : Nat) (v : Int32) (u : Int32), (0 ≤ v.toInt) → (v.toInt ≤ 30) → (∀ m x y : Nat, m < v.toInt.toNat → x < y → y < S → ¬ tDy p 3 A m x y) → hP ro n d (7, 3, 1, 1, k81) 9 [(1, .int v), (2, .int u), (0, .ref 49)] [] p Q := by
  intro n
  induction n with
  | zero => intros; exact hp_0
  | succ n ih =>
    intro v u hv1 hv2 hB
    refine hp_s1 (pc' := 10) (st' := [.int v]) rfl rfl rfl ?_
    refine hp_s (pc' := 12) (st' := [.int 30, .int v]) rfl rfl rfl ?_
    refine hp_ic (pc' := 15) (t := 40) (a := v.toInt) (b := 30) rfl rfl rfl rfl (by decide) (fun (h1 : 30 ≤ v.toInt) => ?_) (fun (h2 : ¬ (30 ≤ v.toInt)) => ?_)
    ·
      refine hp_s (pc' := 42) (st' := [.int (-2)]) rfl rfl rfl ?_
      refine hp_ri rfl rfl ?_
      exact K (-2) (Or.inr ⟨fun m x y ga => hB m x y (by omega), by decide⟩)
    ·
      refine hp_s (pc' := 16) (st' := [.ref 49]) rfl rfl rfl ?_
      refine hp_s (pc' := 17) (st' := [.int v, .ref 49]) rfl rfl rfl ?_
      refine hp_cv (r := 49) (o := 7) (kd := 1) (as := [.int v]) (rest := []) (pc' := 20) rfl rfl rfl rfl rfl rfl rfl rfl rfl (fun d1 => ?_)
      refine s_firstTwoIn S A (vi := v.toInt) rfl (by first | assumption | omega) (by first | assumption | omega) (by first | assumption | omega) (by first | assumption | omega) (by first | assumption | omega) ?_
      intro y1 h3
      refine hp_id (st := [.int y1]) ?_
      refine hp_s (pc' := 21) (ls' := [(2, .int y1), (1, .int v), (0, .ref 49)]) (st' := []) rfl rfl rfl ?_
      refine hp_s (pc' := 22) (st' := [.int y1]) rfl rfl rfl ?_
      refine hp_s (pc' := 24) (st' := [.int (-2), .int y1]) rfl rfl rfl ?_
      refine hp_ic (pc' := 27) (t := 34) (a := y1.toInt) (b := (-2)) rfl rfl rfl rfl (by decide) (fun (h4 : y1.toInt = (-2)) => ?_) (fun (h5 : ¬ (y1.toInt = (-2))) => ?_)
      ·
        refine hp_inc (L := fun z_ => [(1, .int z_), (2, .int y1), (0, .ref 49)]) (pc' := 37) rfl rfl rfl (fun _ => rfl) rfl ?_
        intro z1 hz1
        have ez1 := i_add hz1 (show v.toInt = v.toInt from rfl) (show (Int32.ofInt 1).toInt = 1 from by decide)
        refine hp_go (pc' := 9) rfl rfl rfl ?_
        refine ih z1 y1 (by omega) (by omega) (fun m x y ga gb gc => ?_)
        by_cases g : m < v.toInt.toNat
        · exact hB m x y g gb gc
        · rw [show m = v.toInt.toNat by omega]; exact hJ2_no h3 (by omega) x y gb gc
      ·
        refine hp_s (pc' := 29) (st' := [.int 100]) rfl rfl rfl ?_
        refine hp_s (pc' := 30) (st' := [.int v, .int 100]) rfl rfl rfl ?_
        refine hp_z (pc' := 31) (e := 100 * v) (st' := []) rfl rfl rfl ?_
        intro z2 hz2
        have ez2 := i_mul hz2 (show (100 : Int32).toInt = 100 from by decide) (show v.toInt = v.toInt from rfl)
        refine hp_s (pc' := 32) (st' := [.int y1, .int z2]) rfl rfl rfl ?_
        refine hp_z (pc' := 33) (e := z2 + y1) (st' := []) rfl rfl rfl ?_
        intro z3 hz3
        have ez3 := i_add hz3 (show z2.toInt = z2.toInt from rfl) (show y1.toInt = y1.toInt from rfl)
        refine hp_ri rfl rfl ?_
        obtain ⟨x, y, b1, b2, b3, b4, b5⟩ := hJ2_ex h3 (by omega)
        exact K _ (Or.inl ⟨v.toInt.toNat, x, y, by omega, b1, b2, b3, by omega, hB, b5⟩)
theorem s_firstMeeting {ro : List (List Int32)} {n d : Nat} {p : xH} {Q : Option Value → xH → Prop} (lo : Option (List yN))  (pre0 : lXo p lo) (pre1 : ∀ j, -1 ≤ (rI p 2 j).toInt) (pre2 : 0 ≤ (rI p 13 7).toInt) (pre3 : (rI p 13 7).toInt ≤ 7) (pre4 : 0 ≤ (rI p 13 9).toInt) (pre5 : (rI p 13 9).toInt ≤ 63) (k0 : ∀ z : Int32, ∀ p2 : xH, (hNt T_lk p p2) → (hJ (rI p 13 7).toInt.toNat (tDy p 3 (Xal p lo 0)) z.toInt) → Q (some (.int z)) p2) : hP ro n d (7, 3, 1, 1, k81) 0 (lv_args 0 [.ref 49]) [] p Q := by
  refine hp_id (ls := [(0, .ref 49)]) ?_
  refine hp_s (pc' := 1) (st' := [.ref 49]) rfl rfl rfl ?_
  refine hp_getr (k := 2) (w := .ref 32) (pc' := 4) rfl rfl rfl rfl rfl ?_
  refine hp_cv (r := 32) (o := 4) (kd := 1) (as := []) (rest := []) (pc' := 7) rfl rfl rfl rfl rfl rfl rfl rfl rfl (fun d1 => ?_)
  refine s_lookAround lo (by first | assumption | omega) (by first | assumption | omega) (by first | assumption | omega) (by first | assumption | omega) (by first | assumption | omega) (by first | assumption | omega) ?_
  intro p1 h1 h2
  skip
  refine hp_id (st := []) ?_
  refine hp_s (pc' := 8) (st' := [.int 0]) rfl rfl rfl ?_
  refine hp_s (pc' := 9) (ls' := [(1, .int 0), (0, .ref 49)]) (st' := []) rfl rfl rfl ?_
  refine hp_ls (ls' := [(1, .int 0), (2, .int 0), (0, .ref 49)]) rfl rfl ⟨rfl, rfl, trivial⟩ ?_
  exact lp_81 (S := (rI p 13 7).toInt.toNat) (A := Xal p lo 0) (by rw [h1.int (r := 13) (k := 7) rfl]; omega) (by omega) h2 (fun z hz => k0 z _ h1 (by rw [tDy_e (fun j => h1.int (r := 3) rfl)] at hz; exact hz)) n 0 0 (by decide) (by decide) (fun m x y ga => absurd ga (by rw [i_ofz]; omega))
theorem X_judge {ro : List (List Int32)} {n d : Nat} {p : xH} {Q : Option Value → xH → Prop} (lo : Option (List yN)) {w : Int32} {wi : Int} (hw : w.toInt = wi) (pre0 : lXo p lo) (pre1 : ∀ j, -1 ≤ (rI p 2 j).toInt) (pre2 : 0 ≤ (rI p 13 7).toInt) (pre3 : (rI p 13 7).toInt ≤ 7) (pre4 : 0 ≤ (rI p 13 9).toInt) (pre5 : (rI p 13 9).toInt ≤ 63) (k0 : (¬ (0 ≤ wi ∧ wi ≤ 2)) → Q (some (.int (-1))) p) (k1 : ∀ z : Int32, ∀ p2 : xH, ∀ c : Int, (hNt T_lk p p2) → (0 ≤ wi) → (wi ≤ 2) → (hJ (rI p 13 7).toInt.toNat (tDy p 3 (Xal p lo 0)) c) → (z.toInt = jSel wi c) → Q (some (.int z)) p2) : hP ro n d (11, 3, 1, 1, k150) 0 (lv_args 0 [.ref 0, .int w]) [] p Q := by
  subst hw
  refine hp_id (ls := [(0, .ref 0), (1, .int w)]) ?_
  refine hp_s (pc' := 1) (st' := [.int w]) rfl rfl rfl ?_
  refine hp_if (pc' := 4) (t := 9) (a := w.toInt) rfl rfl rfl rfl (fun (h1 : w.toInt < 0) => ?_) (fun (h2 : ¬ (w.toInt < 0)) => ?_)
  ·
    refine hp_s (pc' := 10) (st' := [.int (-1)]) rfl rfl rfl ?_
    refine hp_ri rfl rfl ?_
    exact k0 (by omega)
  ·
    refine hp_s (pc' := 5) (st' := [.int w]) rfl rfl rfl ?_
    refine hp_s (pc' := 6) (st' := [.int 2, .int w]) rfl rfl rfl ?_
    refine hp_ic (pc' := 9) (t := 11) (a := w.toInt) (b := 2) rfl rfl rfl rfl (by decide) (fun (h3 : w.toInt ≤ 2) => ?_) (fun (h4 : ¬ (w.toInt ≤ 2)) => ?_)
    ·
      refine hp_s (pc' := 12) (st' := [.ref 0]) rfl rfl rfl ?_
      refine hp_getr (k := 10) (w := .ref 49) (pc' := 15) rfl rfl rfl rfl rfl ?_
      refine hp_cv (r := 49) (o := 7) (kd := 1) (as := []) (rest := []) (pc' := 18) rfl rfl rfl rfl rfl rfl rfl rfl rfl (fun d1 => ?_)
      refine s_firstMeeting lo (by first | assumption | omega) (by first | assumption | omega) (by first | assumption | omega) (by first | assumption | omega) (by first | assumption | omega) (by first | assumption | omega) ?_
      intro y1 p1 h5 h6
      have qb := hJ_b (by omega) h6
      refine hp_id (st := [.int y1]) ?_
      refine hp_s (pc' := 19) (ls' := [(2, .int y1), (0, .ref 0), (1, .int w)]) (st' := []) rfl rfl rfl ?_
      refine hp_s (pc' := 20) (st' := [.int y1]) rfl rfl rfl ?_
      refine hp_s (pc' := 22) (st' := [.int (-2), .int y1]) rfl rfl rfl ?_
      refine hp_ic (pc' := 25) (t := 28) (a := y1.toInt) (b := (-2)) rfl rfl rfl rfl (by decide) (fun (h7 : y1.toInt ≠ (-2)) => ?_) (fun (h8 : ¬ (y1.toInt ≠ (-2))) => ?_)
      ·
        refine hp_s (pc' := 29) (st' := [.int w]) rfl rfl rfl ?_
        refine hp_if (pc' := 32) (t := 37) (a := w.toInt) rfl rfl rfl rfl (fun (h9 : w.toInt ≠ 0) => ?_) (fun (h10 : ¬ (w.toInt ≠ 0)) => ?_)
        ·
          refine hp_s (pc' := 38) (st' := [.int w]) rfl rfl rfl ?_
          refine hp_s (pc' := 39) (st' := [.int 1, .int w]) rfl rfl rfl ?_
          refine hp_ic (pc' := 42) (t := 52) (a := w.toInt) (b := 1) rfl rfl rfl rfl (by decide) (fun (h11 : w.toInt ≠ 1) => ?_) (fun (h12 : ¬ (w.toInt ≠ 1)) => ?_)
          ·
            refine hp_s (pc' := 53) (st' := [.int y1]) rfl rfl rfl ?_
            refine hp_s (pc' := 55) (st' := [.int 10, .int y1]) rfl rfl rfl ?_
            refine hp_z (pc' := 56) (e := y1 - y1 / 10 * 10) (st' := []) rfl rfl rfl ?_
            intro z1 hz1
            have ez1 := i_rem hz1 (show y1.toInt = y1.toInt from rfl) (show (10 : Int32).toInt = 10 from by decide) (by decide)
            refine hp_ri rfl rfl ?_
            exact k1 _ _ y1.toInt h5 (by omega) (by omega) h6 (by unfold jSel; first | (rw [if_pos (by omega)]; omega) | (rw [if_neg (by omega), if_pos (by omega)]; omega) | (rw [if_neg (by omega), if_neg (by omega), if_pos (by omega)]; omega) | (rw [if_neg (by omega), if_neg (by omega), if_neg (by omega)]; omega))
          ·
            refine hp_s (pc' := 43) (st' := [.int y1]) rfl rfl rfl ?_
            refine hp_s (pc' := 45) (st' := [.int 10, .int y1]) rfl rfl rfl ?_
            refine hp_z (pc' := 46) (e := y1 / 10) (st' := []) rfl rfl rfl ?_
            intro z2 hz2
            have ez2 := i_div hz2 (show y1.toInt = y1.toInt from rfl) (show (10 : Int32).toInt = 10 from by decide) (by decide)
            refine hp_s (pc' := 48) (st' := [.int 10, .int z2]) rfl rfl rfl ?_
            refine hp_z (pc' := 49) (e := z2 - z2 / 10 * 10) (st' := []) rfl rfl rfl ?_
            intro z3 hz3
            have ez3 := i_rem hz3 (show z2.toInt = (y1.toInt / 10) from (by omega)) (show (10 : Int32).toInt = 10 from by decide) (by decide)
            refine hp_go (pc' := 56) rfl rfl rfl ?_
            refine hp_ri rfl rfl ?_
            exact k1 _ _ y1.toInt h5 (by omega) (by omega) h6 (by unfold jSel; first | (rw [if_pos (by omega)]; omega) | (rw [if_neg (by omega), if_pos (by omega)]; omega) | (rw [if_neg (by omega), if_neg (by omega), if_pos (by omega)]; omega) | (rw [if_neg (by omega), if_neg (by omega), if_neg (by omega)]; omega))
        ·
          refine hp_s (pc' := 33) (st' := [.int y1]) rfl rfl rfl ?_
          refine hp_s (pc' := 35) (st' := [.int 100, .int y1]) rfl rfl rfl ?_
          refine hp_z (pc' := 36) (e := y1 / 100) (st' := []) rfl rfl rfl ?_
          intro z4 hz4
          have ez4 := i_div hz4 (show y1.toInt = y1.toInt from rfl) (show (100 : Int32).toInt = 100 from by decide) (by decide)
          refine hp_ri rfl rfl ?_
          exact k1 _ _ y1.toInt h5 (by omega) (by omega) h6 (by unfold jSel; first | (rw [if_pos (by omega)]; omega) | (rw [if_neg (by omega), if_pos (by omega)]; omega) | (rw [if_neg (by omega), if_neg (by omega), if_pos (by omega)]; omega) | (rw [if_neg (by omega), if_neg (by omega), if_neg (by omega)]; omega))
      ·
        refine hp_s (pc' := 27) (st' := [.int (-2)]) rfl rfl rfl ?_
        refine hp_ri rfl rfl ?_
        exact k1 (-2) _ y1.toInt h5 (by omega) (by omega) h6 (by have h22 : (-2 : Int32).toInt = -2 := (by decide); unfold jSel; rw [if_pos (by omega)]; exact h22)
    ·
      refine hp_s (pc' := 10) (st' := [.int (-1)]) rfl rfl rfl ?_
      refine hp_ri rfl rfl ?_
      exact k0 (by omega)
theorem lp_237c {ro : List (List Int32)} {d : Nat} {Q : Option Value → xH → Prop} {S : Nat} {A : Nat → Nat → Prop} {w v x : Int32} {p : xH} {N : Nat} (hS : (rI p 66 6).toInt = (S : Int)) (hS7 : S ≤ 7) (hR : ∀ n, n < S → hLk A S n (rI p 78 n)) (h88 : ∀ j, -1 ≤ (rI p 88 j).toInt) (hw1 : 0 ≤ w.toInt) (hw2 : w.toInt ≤ 2) (hv : 0 ≤ v.toInt) (hv2 : v.toInt < 30) (hx1 : 0 ≤ x.toInt) (hx2 : x.toInt < S) (KR : ∀ (z : Int32) (a b : Nat), a < b → b < S → tDy p 88 A v.toInt.toNat a b → j2N S (tDy p 88 A v.toInt.toNat) a b → z.toInt = jSel w.toInt (100 * v.toInt + 10 * a + b) → Q (some (.int z)) p) (K : ∀ m : Nat, m ≤ N → ∀ (y t : Int32) (p2 : xH), (p = p2) → (S ≤ y.toInt) → (j2N S (tDy p 88 A v.toInt.toNat) x.toInt.toNat y.toInt.toNat) → hP ro m d (12, 6, 1, 1, k237) 125 [(4, .int y), (5, .int t), (3, .int x), (2, .int v), (0, .ref 66), (1, .int w)] [] p2 Q) : ∀ (n : Nat) (hn : n ≤ N) (y : Int32) (t : Int32), (x.toInt < y.toInt) → (y.toInt ≤ S) → (j2N S (tDy p 88 A v.toInt.toNat) x.toInt.toNat y.toInt.toNat) → hP ro n d (12, 6, 1, 1, k237) 41 [(4, .int y), (5, .int t), (3, .int x), (2, .int v), (0, .ref 66), (1, .int w)] [] p Q := by
  intro n
  induction n with
  | zero => intros; exact hp_0
  | succ n ih =>
    intro hn y t hy1 hy2 hj
    refine hp_s1 (pc' := 43) (st' := [.int y]) rfl rfl rfl ?_
    refine hp_s (pc' := 44) (st' := [.ref 66, .int y]) rfl rfl rfl ?_
    refine hp_get (k := 6) (pc' := 47) (v := (rI p 66 6)) rfl rfl rfl rfl rfl rfl ?_
    refine hp_ic (pc' := 50) (t := 125) (a := y.toInt) (b := (rI p 66 6).toInt) rfl rfl rfl rfl rfl (fun (h1 : (rI p 66 6).toInt ≤ y.toInt) => ?_) (fun (h2 : ¬ ((rI p 66 6).toInt ≤ y.toInt)) => ?_)
    ·
      exact K n (by omega) _ _ _ rfl (by omega) hj
    ·
      refine hp_s (pc' := 51) (st' := [.ref 66]) rfl rfl rfl ?_
      refine hp_getr (k := 33) (w := .ref 88) (pc' := 54) rfl rfl rfl rfl rfl ?_
      refine hp_s (pc' := 56) (st' := [.int 30, .ref 88]) rfl rfl rfl ?_
      refine hp_s (pc' := 57) (st' := [.int x, .int 30, .ref 88]) rfl rfl rfl ?_
      refine hp_z (pc' := 58) (e := 30 * x) (st' := [.ref 88]) rfl rfl rfl ?_
      intro z1 hz1
      have ez1 := i_mul hz1 (show (30 : Int32).toInt = 30 from by decide) (show x.toInt = x.toInt from rfl)
      refine hp_s (pc' := 59) (st' := [.int v, .int z1, .ref 88]) rfl rfl rfl ?_
      refine hp_z (pc' := 60) (e := z1 + v) (st' := [.ref 88]) rfl rfl rfl ?_
      intro z2 hz2
      have ez2 := i_add hz2 (show z1.toInt = z1.toInt from rfl) (show v.toInt = v.toInt from rfl)
      refine hp_ld (t := 100) (v := (rI p 88 z2.toInt.toNat)) rfl (.inl rfl) rfl rfl rfl ?_
      intro (g1a : 0 ≤ z2.toInt) (g1b : z2.toInt < 210)
      have q9 : (rI p 88 z2.toInt.toNat) = rI p 88 (30 * x.toInt.toNat + v.toInt.toNat) := by congr 1; omega
      refine hp_s (pc' := 63) (ls' := [(5, .int (rI p 88 z2.toInt.toNat)), (4, .int y), (3, .int x), (2, .int v), (0, .ref 66), (1, .int w)]) (st' := []) rfl rfl rfl ?_
      refine hp_s (pc' := 65) (st' := [.int (rI p 88 z2.toInt.toNat)]) rfl rfl rfl ?_
      refine hp_if (pc' := 68) (t := 119) (a := (rI p 88 z2.toInt.toNat).toInt) rfl rfl rfl rfl (fun (h3 : (rI p 88 z2.toInt.toNat).toInt < 0) => ?_) (fun (h4 : ¬ ((rI p 88 z2.toInt.toNat).toInt < 0)) => ?_)
      ·
        refine hp_inc (L := fun z_ => [(4, .int z_), (5, .int (rI p 88 z2.toInt.toNat)), (3, .int x), (2, .int v), (0, .ref 66), (1, .int w)]) (pc' := 122) rfl rfl rfl (fun _ => rfl) rfl ?_
        intro z3 hz3
        have ez3 := i_add hz3 (show y.toInt = y.toInt from rfl) (show (Int32.ofInt 1).toInt = 1 from by decide)
        refine hp_go (pc' := 41) rfl rfl rfl ?_
        refine ih (by omega) z3 (rI p 88 z2.toInt.toNat) (by omega) (by omega) ?_
        rw [show z3.toInt.toNat = y.toInt.toNat + 1 by omega]
        refine j2_y hS7 (by omega) (by omega) hj (fun g => ?_)
        have q := h88 (30 * x.toInt.toNat + v.toInt.toNat)
        have q2 := g.1
        rw [← q9] at q q2
        omega
      ·
        refine hp_s (pc' := 70) (st' := [.int (rI p 88 z2.toInt.toNat)]) rfl rfl rfl ?_
        refine hp_s (pc' := 71) (st' := [.ref 66, .int (rI p 88 z2.toInt.toNat)]) rfl rfl rfl ?_
        refine hp_getr (k := 33) (w := .ref 88) (pc' := 74) rfl rfl rfl rfl rfl ?_
        refine hp_s (pc' := 76) (st' := [.int 30, .ref 88, .int (rI p 88 z2.toInt.toNat)]) rfl rfl rfl ?_
        refine hp_s (pc' := 78) (st' := [.int y, .int 30, .ref 88, .int (rI p 88 z2.toInt.toNat)]) rfl rfl rfl ?_
        refine hp_z (pc' := 79) (e := 30 * y) (st' := [.ref 88, .int (rI p 88 z2.toInt.toNat)]) rfl rfl rfl ?_
        intro z4 hz4
        have ez4 := i_mul hz4 (show (30 : Int32).toInt = 30 from by decide) (show y.toInt = y.toInt from rfl)
        refine hp_s (pc' := 80) (st' := [.int v, .int z4, .ref 88, .int (rI p 88 z2.toInt.toNat)]) rfl rfl rfl ?_
        refine hp_z (pc' := 81) (e := z4 + v) (st' := [.ref 88, .int (rI p 88 z2.toInt.toNat)]) rfl rfl rfl ?_
        intro z5 hz5
        have ez5 := i_add hz5 (show z4.toInt = z4.toInt from rfl) (show v.toInt = v.toInt from rfl)
        refine hp_ld (t := 100) (v := (rI p 88 z5.toInt.toNat)) rfl (.inl rfl) rfl rfl rfl ?_
        intro (g2a : 0 ≤ z5.toInt) (g2b : z5.toInt < 210)
        have q10 : (rI p 88 z5.toInt.toNat) = rI p 88 (30 * y.toInt.toNat + v.toInt.toNat) := by congr 1; omega
        refine hp_ic (pc' := 85) (t := 119) (a := (rI p 88 z2.toInt.toNat).toInt) (b := (rI p 88 z5.toInt.toNat).toInt) rfl rfl rfl rfl rfl (fun (h5 : (rI p 88 z2.toInt.toNat).toInt ≠ (rI p 88 z5.toInt.toNat).toInt) => ?_) (fun (h6 : ¬ ((rI p 88 z2.toInt.toNat).toInt ≠ (rI p 88 z5.toInt.toNat).toInt)) => ?_)
        ·
          refine hp_inc (L := fun z_ => [(4, .int z_), (5, .int (rI p 88 z2.toInt.toNat)), (3, .int x), (2, .int v), (0, .ref 66), (1, .int w)]) (pc' := 122) rfl rfl rfl (fun _ => rfl) rfl ?_
          intro z6 hz6
          have ez6 := i_add hz6 (show y.toInt = y.toInt from rfl) (show (Int32.ofInt 1).toInt = 1 from by decide)
          refine hp_go (pc' := 41) rfl rfl rfl ?_
          refine ih (by omega) z6 (rI p 88 z2.toInt.toNat) (by omega) (by omega) ?_
          rw [show z6.toInt.toNat = y.toInt.toNat + 1 by omega]
          refine j2_y hS7 (by omega) (by omega) hj (fun g => ?_)
          have q2 : (rI p 88 (30 * x.toInt.toNat + v.toInt.toNat)).toInt = (rI p 88 (30 * y.toInt.toNat + v.toInt.toNat)).toInt := g.2.1
          rw [← q9, ← q10] at q2
          omega
        ·
          refine hp_s (pc' := 86) (st' := [.ref 66]) rfl rfl rfl ?_
          refine hp_getr (k := 21) (w := .ref 78) (pc' := 89) rfl rfl rfl rfl rfl ?_
          refine hp_s (pc' := 90) (st' := [.int x, .ref 78]) rfl rfl rfl ?_
          refine hp_ld (t := 100) (v := (rI p 78 x.toInt.toNat)) rfl (.inl rfl) rfl rfl rfl ?_
          intro (g3a : 0 ≤ x.toInt) (g3b : x.toInt < 7)
          refine hp_s (pc' := 93) (st' := [.int y, .int (rI p 78 x.toInt.toNat)]) rfl rfl rfl ?_
          refine hp_cs (kd := 0) (as := [.int (rI p 78 x.toInt.toNat), .int y]) (rest := []) (pc' := 96) rfl rfl rfl rfl rfl rfl rfl (fun d1 => ?_)
          refine s_isIn (xi := (rI p 78 x.toInt.toNat).toInt) rfl (yi := y.toInt) rfl ?_ ?_
          ·
            intro h7
            have hin : bI (rI p 78 x.toInt.toNat) y.toInt.toNat = true := b_if ((bI_at _ (by omega) (by omega)).symm.trans h7)
            refine hp_id (st := [.int 1]) ?_
            refine hp_go (pc' := 99) rfl rfl rfl ?_
            refine hp_s (pc' := 100) (st' := [.int w]) rfl rfl rfl ?_
            refine hp_if (pc' := 103) (t := 107) (a := w.toInt) rfl rfl rfl rfl (fun (h8 : w.toInt ≠ 0) => ?_) (fun (h9 : ¬ (w.toInt ≠ 0)) => ?_)
            ·
              refine hp_s (pc' := 108) (st' := [.int w]) rfl rfl rfl ?_
              refine hp_s (pc' := 109) (st' := [.int 1, .int w]) rfl rfl rfl ?_
              refine hp_ic (pc' := 112) (t := 116) (a := w.toInt) (b := 1) rfl rfl rfl rfl (by decide) (fun (h10 : w.toInt ≠ 1) => ?_) (fun (h11 : ¬ (w.toInt ≠ 1)) => ?_)
              ·
                refine hp_s (pc' := 118) (st' := [.int y]) rfl rfl rfl ?_
                refine hp_ri rfl rfl ?_
                have qA := ((hR x.toInt.toNat (by omega) y.toInt.toNat (by omega)).mp hin).2.2
                refine KR _ x.toInt.toNat y.toInt.toNat (by omega) (by omega) ⟨?_, ?_, qA⟩ hj (by unfold jSel; first | (rw [if_pos (by omega)]; omega) | (rw [if_neg (by omega), if_pos (by omega)]; omega) | (rw [if_neg (by omega), if_neg (by omega), if_pos (by omega)]; omega) | (rw [if_neg (by omega), if_neg (by omega), if_neg (by omega)]; omega))
                · rw [← q9]; omega
                · rw [← q9, ← q10]; omega
              ·
                refine hp_s (pc' := 113) (st' := [.int x]) rfl rfl rfl ?_
                refine hp_go (pc' := 118) rfl rfl rfl ?_
                refine hp_ri rfl rfl ?_
                have qA := ((hR x.toInt.toNat (by omega) y.toInt.toNat (by omega)).mp hin).2.2
                refine KR _ x.toInt.toNat y.toInt.toNat (by omega) (by omega) ⟨?_, ?_, qA⟩ hj (by unfold jSel; first | (rw [if_pos (by omega)]; omega) | (rw [if_neg (by omega), if_pos (by omega)]; omega) | (rw [if_neg (by omega), if_neg (by omega), if_pos (by omega)]; omega) | (rw [if_neg (by omega), if_neg (by omega), if_neg (by omega)]; omega))
                · rw [← q9]; omega
                · rw [← q9, ← q10]; omega
            ·
              refine hp_s (pc' := 104) (st' := [.int v]) rfl rfl rfl ?_
              refine hp_go (pc' := 118) rfl rfl rfl ?_
              refine hp_ri rfl rfl ?_
              have qA := ((hR x.toInt.toNat (by omega) y.toInt.toNat (by omega)).mp hin).2.2
              refine KR _ x.toInt.toNat y.toInt.toNat (by omega) (by omega) ⟨?_, ?_, qA⟩ hj (by unfold jSel; first | (rw [if_pos (by omega)]; omega) | (rw [if_neg (by omega), if_pos (by omega)]; omega) | (rw [if_neg (by omega), if_neg (by omega), if_pos (by omega)]; omega) | (rw [if_neg (by omega), if_neg (by omega), if_neg (by omega)]; omega))
              · rw [← q9]; omega
              · rw [← q9, ← q10]; omega
          ·
            intro h12
            have hin : bI (rI p 78 x.toInt.toNat) y.toInt.toNat = false := b_if0 (fun gz => h12 ((bI_at _ (by omega) (by omega)).trans gz))
            refine hp_id (st := [.int 0]) ?_
            refine hp_go (pc' := 119) rfl rfl rfl ?_
            refine hp_inc (L := fun z_ => [(4, .int z_), (5, .int (rI p 88 z2.toInt.toNat)), (3, .int x), (2, .int v), (0, .ref 66), (1, .int w)]) (pc' := 122) rfl rfl rfl (fun _ => rfl) rfl ?_
            intro z7 hz7
            have ez7 := i_add hz7 (show y.toInt = y.toInt from rfl) (show (Int32.ofInt 1).toInt = 1 from by decide)
            refine hp_go (pc' := 41) rfl rfl rfl ?_
            refine ih (by omega) z7 (rI p 88 z2.toInt.toNat) (by omega) (by omega) ?_
            rw [show z7.toInt.toNat = y.toInt.toNat + 1 by omega]
            refine j2_y hS7 (by omega) (by omega) hj (fun g => ?_)
            have q := (hR x.toInt.toNat (by omega) y.toInt.toNat (by omega)).mpr ⟨by omega, by omega, g.2.2⟩
            rw [q] at hin; cases hin
theorem lp_237b {ro : List (List Int32)} {d : Nat} {Q : Option Value → xH → Prop} {S : Nat} {A : Nat → Nat → Prop} {w v : Int32} {p : xH} {N : Nat} (hS : (rI p 66 6).toInt = (S : Int)) (hS7 : S ≤ 7) (hR : ∀ n, n < S → hLk A S n (rI p 78 n)) (h88 : ∀ j, -1 ≤ (rI p 88 j).toInt) (hw1 : 0 ≤ w.toInt) (hw2 : w.toInt ≤ 2) (hv : 0 ≤ v.toInt) (hv2 : v.toInt < 30) (KR : ∀ (z : Int32) (a b : Nat), a < b → b < S → tDy p 88 A v.toInt.toNat a b → j2N S (tDy p 88 A v.toInt.toNat) a b → z.toInt = jSel w.toInt (100 * v.toInt + 10 * a + b) → Q (some (.int z)) p) (K : ∀ m : Nat, m ≤ N → ∀ (x y t : Int32) (p2 : xH), (p = p2) → (S ≤ x.toInt) → (j2N S (tDy p 88 A v.toInt.toNat) x.toInt.toNat 0) → hP ro m d (12, 6, 1, 1, k237) 131 [(4, .int y), (5, .int t), (3, .int x), (2, .int v), (0, .ref 66), (1, .int w)] [] p2 Q) : ∀ (n : Nat) (hn : n ≤ N) (x : Int32) (y : Int32) (t : Int32), (0 ≤ x.toInt) → (x.toInt ≤ S) → (j2N S (tDy p 88 A v.toInt.toNat) x.toInt.toNat 0) → hP ro n d (12, 6, 1, 1, k237) 28 [(4, .int y), (5, .int t), (3, .int x), (2, .int v), (0, .ref 66), (1, .int w)] [] p Q := by
  intro n
  induction n with
  | zero => intros; exact hp_0
  | succ n ih =>
    intro hn x y t hx1 hx2 hj
    refine hp_s1 (pc' := 29) (st' := [.int x]) rfl rfl rfl ?_
    refine hp_s (pc' := 30) (st' := [.ref 66, .int x]) rfl rfl rfl ?_
    refine hp_get (k := 6) (pc' := 33) (v := (rI p 66 6)) rfl rfl rfl rfl rfl rfl ?_
    refine hp_ic (pc' := 36) (t := 131) (a := x.toInt) (b := (rI p 66 6).toInt) rfl rfl rfl rfl rfl (fun (h1 : (rI p 66 6).toInt ≤ x.toInt) => ?_) (fun (h2 : ¬ ((rI p 66 6).toInt ≤ x.toInt)) => ?_)
    ·
      exact K n (by omega) _ _ _ _ rfl (by omega) hj
    ·
      refine hp_s (pc' := 37) (st' := [.int x]) rfl rfl rfl ?_
      refine hp_s (pc' := 38) (st' := [.int 1, .int x]) rfl rfl rfl ?_
      refine hp_z (pc' := 39) (e := x + 1) (st' := []) rfl rfl rfl ?_
      intro z1 hz1
      have ez1 := i_add hz1 (show x.toInt = x.toInt from rfl) (show (1 : Int32).toInt = 1 from by decide)
      refine hp_s (pc' := 41) (ls' := [(4, .int z1), (5, .int t), (3, .int x), (2, .int v), (0, .ref 66), (1, .int w)]) (st' := []) rfl rfl rfl ?_
      refine lp_237c (N := n) (S := S) (A := A) (w := w) (v := v) (x := x) hS hS7 hR h88 hw1 hw2 hv hv2 hx1 (by omega) KR (fun m0 hm0 y t p2 e j1 j2 => ?_) n (Nat.le_refl _) z1 t (by omega) (by omega) (by rw [show z1.toInt.toNat = x.toInt.toNat + 1 by omega]; exact j2_in hS7 (by omega) hj)
      subst e
      refine hp_inc (L := fun z_ => [(3, .int z_), (4, .int y), (5, .int t), (2, .int v), (0, .ref 66), (1, .int w)]) (pc' := 128) rfl rfl rfl (fun _ => rfl) rfl ?_
      intro z2 hz2
      have ez2 := i_add hz2 (show x.toInt = x.toInt from rfl) (show (Int32.ofInt 1).toInt = 1 from by decide)
      refine hp_go (pc' := 28) rfl rfl rfl ?_
      refine hp_ls (ls' := [(4, .int y), (5, .int t), (3, .int z2), (2, .int v), (0, .ref 66), (1, .int w)]) rfl rfl ⟨rfl, rfl, rfl, rfl, rfl, rfl, trivial⟩ ?_
      exact hp_le hm0 (ih (by omega) z2 y t (by omega) (by omega) (by rw [show z2.toInt.toNat = x.toInt.toNat + 1 by omega]; exact j2_x hS7 (by omega) j2))
theorem lp_237a {ro : List (List Int32)} {d : Nat} {Q : Option Value → xH → Prop} {S : Nat} {A : Nat → Nat → Prop} {w : Int32} {p : xH} (hS : (rI p 66 6).toInt = (S : Int)) (hS7 : S ≤ 7) (hR : ∀ n, n < S → hLk A S n (rI p 78 n)) (h88 : ∀ j, -1 ≤ (rI p 88 j).toInt) (hw1 : 0 ≤ w.toInt) (hw2 : w.toInt ≤ 2) (K : ∀ (z : Int32) (c : Int), hJ S (tDy p 88 A) c → z.toInt = jSel w.toInt c → Q (some (.int z)) p) : ∀ (n : Nat) (v : Int32) (x : Int32) (y : Int32) (t : Int32), (0 ≤ v.toInt) → (v.toInt ≤ 30) → (∀ m a b : Nat, m < v.toInt.toNat → a < b → b < S → ¬ tDy p 88 A m a b) → hP ro n d (12, 6, 1, 1, k237) 20 [(4, .int y), (5, .int t), (3, .int x), (2, .int v), (0, .ref 66), (1, .int w)] [] p Q := by
  intro n
  induction n with
  | zero => intros; exact hp_0
  | succ n ih =>
    intro v x y t hv1 hv2 hB
    refine hp_s1 (pc' := 21) (st' := [.int v]) rfl rfl rfl ?_
    refine hp_s (pc' := 23) (st' := [.int 30, .int v]) rfl rfl rfl ?_
    refine hp_ic (pc' := 26) (t := 137) (a := v.toInt) (b := 30) rfl rfl rfl rfl (by decide) (fun (h1 : 30 ≤ v.toInt) => ?_) (fun (h2 : ¬ (30 ≤ v.toInt)) => ?_)
    ·
      refine hp_s (pc' := 139) (st' := [.int (-2)]) rfl rfl rfl ?_
      refine hp_ri rfl rfl ?_
      exact K (-2) (-2) (Or.inr ⟨fun m a b ga => hB m a b (by omega), rfl⟩) (by unfold jSel; rw [if_pos (by decide)]; decide)
    ·
      refine hp_s (pc' := 27) (st' := [.int 0]) rfl rfl rfl ?_
      refine hp_s (pc' := 28) (ls' := [(3, .int 0), (4, .int y), (5, .int t), (2, .int v), (0, .ref 66), (1, .int w)]) (st' := []) rfl rfl rfl ?_
      refine hp_ls (ls' := [(4, .int y), (5, .int t), (3, .int 0), (2, .int v), (0, .ref 66), (1, .int w)]) rfl rfl ⟨rfl, rfl, rfl, rfl, rfl, rfl, trivial⟩ ?_
      refine lp_237b (N := n) (S := S) (A := A) (w := w) (v := v) hS hS7 hR h88 hw1 hw2 hv1 (by omega) (fun z a b b1 b2 b3 b4 b5 => K z _ (Or.inl ⟨v.toInt.toNat, a, b, by omega, b1, b2, b3, rfl, hB, b4⟩) (by rw [b5, show ((v.toInt.toNat : Nat) : Int) = v.toInt from by omega])) (fun m0 hm0 x y t p2 e j1 j2 => ?_) n (Nat.le_refl _) 0 y t (by decide) (by have h00 : (0 : Int32).toInt = 0 := (by decide); omega) (by rw [i_ofz]; exact j2_0)
      subst e
      refine hp_inc (L := fun z_ => [(2, .int z_), (4, .int y), (5, .int t), (3, .int x), (0, .ref 66), (1, .int w)]) (pc' := 134) rfl rfl rfl (fun _ => rfl) rfl ?_
      intro z1 hz1
      have ez1 := i_add hz1 (show v.toInt = v.toInt from rfl) (show (Int32.ofInt 1).toInt = 1 from by decide)
      refine hp_go (pc' := 20) rfl rfl rfl ?_
      refine hp_ls (ls' := [(4, .int y), (5, .int t), (3, .int x), (2, .int z1), (0, .ref 66), (1, .int w)]) rfl rfl ⟨rfl, rfl, rfl, rfl, rfl, rfl, trivial⟩ ?_
      refine hp_le hm0 (ih z1 x y t (by omega) (by omega) (fun m a b ga gb gc => ?_))
      by_cases g : m < v.toInt.toNat
      · exact hB m a b g gb gc
      · rw [show m = v.toInt.toNat by omega]; exact j2_end hS7 (by omega) j2 a b gb gc
theorem M_judge {ro : List (List Int32)} {n d : Nat} {p : xH} {Q : Option Value → xH → Prop} (lo : Option (List yN)) {w : Int32} {wi : Int} (hw : w.toInt = wi) (pre0 : lMo p lo) (pre1 : ∀ j, 0 ≤ (rI p 67 j).toInt ∧ (rI p 67 j).toInt < 64) (pre2 : ∀ j, -1 ≤ (rI p 71 j).toInt ∧ (rI p 71 j).toInt < 6) (pre3 : 0 ≤ (rI p 66 6).toInt) (pre4 : (rI p 66 6).toInt ≤ 7) (pre5 : ∀ j, -1 ≤ (rI p 88 j).toInt) (k0 : (¬ (0 ≤ wi ∧ wi ≤ 2)) → Q (some (.int (-1))) p) (k1 : ∀ z : Int32, ∀ p2 : xH, ∀ c : Int, (hNt T_ml p p2) → (0 ≤ wi) → (wi ≤ 2) → (hJ (rI p 66 6).toInt.toNat (tDy p 88 (Mal p lo)) c) → (z.toInt = jSel wi c) → Q (some (.int z)) p2) : hP ro n d (12, 6, 1, 1, k237) 0 (lv_args 0 [.ref 66, .int w]) [] p Q := by
  subst hw
  refine hp_id (ls := [(0, .ref 66), (1, .int w)]) ?_
  refine hp_s (pc' := 1) (st' := [.int w]) rfl rfl rfl ?_
  refine hp_i2l (pc' := 2) rfl rfl ?_
  intro z1 hz1 ez1
  refine hp_s (pc' := 3) (st' := [.long 0, .long z1]) rfl rfl rfl ?_
  refine hp_s (pc' := 6) (st' := [.long 2, .long 0, .long z1]) rfl rfl rfl ?_
  refine hp_cs (kd := 0) (as := [.long z1, .long 0, .long 2]) (rest := []) (pc' := 9) rfl rfl rfl rfl rfl rfl rfl (fun d1 => ?_)
  refine s_within (vi := w.toInt) ez1 (ai := 0) (by decide) (bi := 2) (by decide) ?_ ?_
  ·
    intro h1 h2
    refine hp_id (st := [.int 1]) ?_
    refine hp_go (pc' := 14) rfl rfl rfl ?_
    refine hp_s (pc' := 15) (st' := [.ref 66]) rfl rfl rfl ?_
    refine hp_cv (r := 66) (o := 12) (kd := 1) (as := []) (rest := []) (pc' := 18) rfl rfl rfl rfl rfl rfl rfl rfl rfl (fun d2 => ?_)
    refine s_asksLikes lo (by first | assumption | omega) (by first | assumption | omega) (by first | assumption | omega) (by first | assumption | omega) (by first | assumption | omega) ?_
    intro p1 h3 h4
    skip
    refine hp_id (st := []) ?_
    refine hp_s (pc' := 19) (st' := [.int 0]) rfl rfl rfl ?_
    refine hp_s (pc' := 20) (ls' := [(2, .int 0), (0, .ref 66), (1, .int w)]) (st' := []) rfl rfl rfl ?_
    refine hp_ls (ls' := [(4, .int 0), (5, .int 0), (3, .int 0), (2, .int 0), (0, .ref 66), (1, .int w)]) rfl rfl ⟨rfl, rfl, rfl, trivial⟩ ?_
    exact lp_237a (S := (rI p 66 6).toInt.toNat) (A := Mal p lo) (w := w) (by rw [h3.int (r := 66) (k := 6) rfl]; omega) (by omega) h4 (fun j => by rw [h3.int (r := 88) rfl]; exact pre5 j) (by omega) (by omega) (fun z c hz hs => k1 z _ c h3 (by omega) (by omega) (by rw [tDy_e (fun j => h3.int (r := 88) rfl)] at hz; exact hz) hs) n 0 0 0 0 (by decide) (by decide) (fun m x y ga => absurd ga (by rw [i_ofz]; omega))
  ·
    intro h5
    refine hp_id (st := [.int 0]) ?_
    refine hp_go (pc' := 12) rfl rfl rfl ?_
    refine hp_s (pc' := 13) (st' := [.int (-1)]) rfl rfl rfl ?_
    refine hp_ri rfl rfl ?_
    first | (exact k0 (by first | assumption | omega)) | (exact k1 _ _ _ (by first | assumption | omega) (by first | assumption | omega) (by first | assumption | omega) (by first | assumption | omega) (by first | assumption | omega)) | (exfalso; omega)
