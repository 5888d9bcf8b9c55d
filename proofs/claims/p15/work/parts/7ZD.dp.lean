/-! a day's plan, as a function -/
noncomputable def iP {α : Type} (P : Prop) (a b : α) : α := @ite α P (Classical.propDecidable P) a b
theorem iP_y {α : Type} {P : Prop} {a b : α} (h : P) : iP P a b = a := @if_pos P (Classical.propDecidable P) h α a b
theorem iP_n {α : Type} {P : Prop} {a b : α} (h : ¬ P) : iP P a b = b := @if_neg P (Classical.propDecidable P) h α a b
theorem iP_e {α : Type} {P R : Prop} {a b : α} (h : P ↔ R) : iP P a b = iP R a b := by rw [propext h]
/-- the first from b on, of so many -/
noncomputable def fW (A : Int → Prop) : Nat → Int → Int
  | 0, _ => -1
  | n + 1, b => iP (A b) b (fW A n (b + 1))
theorem fW_ok {A : Int → Prop} : ∀ (n : Nat) (b : Int), fW A n b = -1 ∨ (b ≤ fW A n b ∧ fW A n b < b + n ∧ A (fW A n b))
  | 0, _ => Or.inl rfl
  | n + 1, b => by
    rcases Classical.em (A b) with h | h
    · have e : fW A (n + 1) b = b := iP_y h
      rw [e]
      exact Or.inr ⟨Int.le_refl _, by push_cast; omega, h⟩
    · have e : fW A (n + 1) b = fW A n (b + 1) := iP_n h
      rw [e]
      rcases fW_ok (A := A) n (b + 1) with q | ⟨q1, q2, q3⟩
      · exact Or.inl q
      · exact Or.inr ⟨by omega, by push_cast; omega, q3⟩
noncomputable def gW (A : Int → Prop) (N b : Int) : Int := fW A (N - b).toNat b
theorem gW_ok (A : Int → Prop) (N b : Int) : gW A N b = -1 ∨ (b ≤ gW A N b ∧ gW A N b < N ∧ A (gW A N b)) := by
  unfold gW
  rcases fW_ok (A := A) (N - b).toNat b with q | ⟨q1, q2, q3⟩
  · exact Or.inl q
  · exact Or.inr ⟨q1, by omega, q3⟩
theorem gW_stop {A : Int → Prop} {N b : Int} (h : N ≤ b) : gW A N b = -1 := by
  unfold gW
  rw [show (N - b).toNat = 0 by omega]
  rfl
theorem gW_hit {A : Int → Prop} {N b : Int} (h : b < N) (a : A b) : gW A N b = b := by
  unfold gW
  rw [show (N - b).toNat = (N - b - 1).toNat + 1 by omega]
  exact iP_y a
theorem gW_next {A : Int → Prop} {N b : Int} (h : b < N) (a : ¬ A b) : gW A N b = gW A N (b + 1) := by
  unfold gW
  rw [show (N - b).toNat = (N - (b + 1)).toNat + 1 by omega]
  exact iP_n a
theorem gW_skip {A : Int → Prop} {N : Int} : ∀ {k : Nat} {b : Int}, (∀ j : Int, b ≤ j → j < b + k → ¬ A j) → gW A N b = gW A N (b + k)
  | 0, b, _ => by rw [show b + ((0 : Nat) : Int) = b by omega]
  | k + 1, b, h => by
    rw [show b + ((k + 1 : Nat) : Int) = b + 1 + (k : Int) by push_cast; omega]
    rw [← gW_skip (k := k) (b := b + 1) (fun j h1 h2 => h j (by omega) (by push_cast; omega))]
    rcases Int.lt_or_le b N with g | g
    · exact gW_next g (h b (by omega) (by push_cast; omega))
    · rw [gW_stop g, gW_stop (by omega)]
/-- what one has done: the first minute out, the minute from which it is free, where it is in a minute; none: barred -/
abbrev dS := Option (Int × Int × (Int → Int))
def dw (r : dS) (m : Int) : Int := match r with
  | none => -1
  | some q => q.2.2 m
/-- so long in that street nobody is in its way -/
def dA (Sh : Int → Int → Prop) (s t b : Int) : Prop := ∀ j : Int, 0 ≤ j → j < t → ¬ Sh s (b + j)
noncomputable def dB (Sh : Int → Int → Prop) (s t f : Int) : Int := gW (dA Sh s t) (31 - t) f
noncomputable def dE (Sh : Int → Int → Prop) (s t : Int) : dS → dS
  | none => none
  | some q => iP (dB Sh s t q.2.1 < 0) none (some (iP (q.1 < 0) (dB Sh s t q.2.1) q.1, dB Sh s t q.2.1 + t, fun m => iP (dB Sh s t q.2.1 ≤ m ∧ m < dB Sh s t q.2.1 + t) s (q.2.2 m)))
noncomputable def dK (Sh : Int → Int → Prop) (s t : Nat → Int) : Nat → dS
  | 0 => some (-1, 0, fun _ => -1)
  | k + 1 => dE Sh (s k) (t k) (dK Sh s t k)
theorem dK_none {Sh : Int → Int → Prop} {s t : Nat → Int} {k : Nat} (h : dK Sh s t k = none) : ∀ {e : Nat}, k ≤ e → dK Sh s t e = none
  | 0, hk => by rw [show 0 = k by omega]; exact h
  | e + 1, hk => by
    by_cases g : k = e + 1
    · rw [← g]; exact h
    · show dE Sh (s e) (t e) (dK Sh s t e) = none
      rw [dK_none h (e := e) (by omega)]
      rfl
theorem dK_no {Sh : Int → Int → Prop} {s t : Nat → Int} {k : Nat} {q : Int × Int × (Int → Int)} {b : Int} (h : dK Sh s t k = some q) (hb : dB Sh (s k) (t k) q.2.1 = b) (h0 : b < 0) : dK Sh s t (k + 1) = none := by
  show dE Sh (s k) (t k) (dK Sh s t k) = none
  rw [h]
  exact iP_y (by rw [hb]; exact h0)
theorem dK_yes {Sh : Int → Int → Prop} {s t : Nat → Int} {k : Nat} {q : Int × Int × (Int → Int)} {b : Int} (h : dK Sh s t k = some q) (hb : dB Sh (s k) (t k) q.2.1 = b) (h0 : 0 ≤ b) : dK Sh s t (k + 1) = some (iP (q.1 < 0) b q.1, b + t k, fun m => iP (b ≤ m ∧ m < b + t k) (s k) (q.2.2 m)) := by
  subst hb
  show dE Sh (s k) (t k) (dK Sh s t k) = _
  rw [h]
  exact iP_n (by omega)
/-- what holds behind k errands -/
def dI (k : Nat) (q : Int × Int × (Int → Int)) : Prop := 0 ≤ q.2.1 ∧ q.2.1 ≤ 30 ∧ (∀ m, q.2.1 ≤ m → q.2.2 m = -1) ∧ (∀ m, -1 ≤ q.2.2 m ∧ q.2.2 m ≤ 4) ∧ ((k = 0 ∧ q.1 = -1 ∧ q.2.1 = 0 ∧ ∀ m, q.2.2 m = -1) ∨ (0 < k ∧ 0 ≤ q.1 ∧ q.1 < q.2.1 ∧ 0 ≤ q.2.2 q.1 ∧ 0 ≤ q.2.2 (q.2.1 - 1) ∧ ∀ m, m < q.1 → q.2.2 m = -1))
theorem dI_0 : dI 0 (-1, 0, fun _ => -1) := ⟨by decide, by decide, fun _ _ => rfl, fun _ => ⟨by show (-1 : Int) ≤ -1; decide, by show (-1 : Int) ≤ 4; decide⟩, Or.inl ⟨rfl, rfl, rfl, fun _ => rfl⟩⟩
theorem dI_s {Sh : Int → Int → Prop} {k : Nat} {q : Int × Int × (Int → Int)} {s t b : Int} (hI : dI k q) (hb : dB Sh s t q.2.1 = b) (h0 : 0 ≤ b) (hs : 0 ≤ s ∧ s ≤ 4) (ht : 1 ≤ t ∧ t ≤ 6) : q.2.1 ≤ b ∧ b + t ≤ 30 ∧ dI (k + 1) (iP (q.1 < 0) b q.1, b + t, fun m => iP (b ≤ m ∧ m < b + t) s (q.2.2 m)) := by
  obtain ⟨a1, a2, a3, a4, a5⟩ := hI
  have hq : q.2.1 ≤ b ∧ b < 31 - t := by
    have := gW_ok (dA Sh s t) (31 - t) q.2.1
    unfold dB at hb
    rw [hb] at this
    rcases this with g | g
    · omega
    · exact ⟨g.1, g.2.1⟩
  have w1 : ∀ m, b ≤ m → m < b + t → iP (b ≤ m ∧ m < b + t) s (q.2.2 m) = s := fun m h1 h2 => iP_y ⟨h1, h2⟩
  have w2 : ∀ m, ¬ (b ≤ m ∧ m < b + t) → iP (b ≤ m ∧ m < b + t) s (q.2.2 m) = q.2.2 m := fun m h => iP_n h
  refine ⟨hq.1, by omega, by show 0 ≤ b + t; omega, by show b + t ≤ 30; omega, fun m hm => ?_, fun m => ?_, Or.inr ⟨by omega, ?_⟩⟩
  · have hm : b + t ≤ m := hm
    show iP _ s _ = -1
    rw [w2 m (by omega)]
    exact a3 m (by omega)
  · show -1 ≤ iP _ s _ ∧ iP _ s _ ≤ 4
    by_cases g : b ≤ m ∧ m < b + t
    · rw [w1 m g.1 g.2]; omega
    · rw [w2 m g]; exact a4 m
  · show 0 ≤ iP (q.1 < 0) b q.1 ∧ iP (q.1 < 0) b q.1 < b + t ∧ 0 ≤ iP _ s _ ∧ 0 ≤ iP _ s _ ∧ ∀ m, m < iP (q.1 < 0) b q.1 → iP _ s _ = -1
    rcases a5 with ⟨c1, c2, c3, c4⟩ | ⟨c1, c2, c3, c4, c5, c6⟩
    · rw [iP_y (show q.1 < 0 by omega)]
      refine ⟨h0, by omega, ?_, ?_, fun m hm => ?_⟩
      · rw [w1 b (by omega) (by omega)]; exact hs.1
      · rw [w1 (b + t - 1) (by omega) (by omega)]; exact hs.1
      · rw [w2 m (by omega)]; exact c4 m
    · rw [iP_n (show ¬ q.1 < 0 by omega)]
      refine ⟨c2, by omega, ?_, ?_, fun m hm => ?_⟩
      · rw [w2 q.1 (by omega)]; exact c4
      · rw [w1 (b + t - 1) (by omega) (by omega)]; exact hs.1
      · rw [w2 m (by omega)]; exact c6 m hm
theorem dK_inv {Sh : Int → Int → Prop} {s t : Nat → Int} {e : Nat} (hs : ∀ k, k < e → 0 ≤ s k ∧ s k ≤ 4) (ht : ∀ k, k < e → 1 ≤ t k ∧ t k ≤ 6) : ∀ {k : Nat}, k ≤ e → ∀ {q}, dK Sh s t k = some q → dI k q
  | 0, _, q, h => by
    have h : some (-1, 0, fun _ => -1) = some q := h
    cases h
    exact dI_0
  | k + 1, hk, q, h => by
    have h : dE Sh (s k) (t k) (dK Sh s t k) = some q := h
    cases hq : dK Sh s t k with
    | none => rw [hq] at h; cases h
    | some q0 =>
      have h0 := dK_inv hs ht (k := k) (by omega) hq
      rcases Int.lt_or_le (dB Sh (s k) (t k) q0.2.1) 0 with g | g
      · have := dK_no hq rfl g
        rw [show dK Sh s t (k + 1) = some q from h] at this
        cases this
      · have := dK_yes hq rfl g
        rw [show dK Sh s t (k + 1) = some q from h] at this
        cases this
        exact (dI_s h0 rfl g (hs k (by omega)) (ht k (by omega))).2.2
/-- in the way: one who had its turn ahead, is alike, and is there -/
def dSh (A : Nat → Nat → Prop) (S : Nat) (W : Nat → dS) (l : List Nat) (n : Nat) (s m : Int) : Prop := ∃ j, j ∈ l ∧ j < S ∧ n ≠ j ∧ A n j ∧ dw (W j) m = s
/-- the turns, the latest first -/
noncomputable def dL (A : Nat → Nat → Prop) (S : Nat) (e : Nat → Nat) (s t : Nat → Nat → Int) : List Nat → Nat → dS
  | [], _ => none
  | n :: l, j => iP (j = n) (dK (dSh A S (dL A S e s t l) l n) (s n) (t n) (e n)) (dL A S e s t l j)
theorem dL_h {A : Nat → Nat → Prop} {S : Nat} {e : Nat → Nat} {s t : Nat → Nat → Int} {n : Nat} {l : List Nat} : dL A S e s t (n :: l) n = dK (dSh A S (dL A S e s t l) l n) (s n) (t n) (e n) := iP_y rfl
theorem dL_t {A : Nat → Nat → Prop} {S : Nat} {e : Nat → Nat} {s t : Nat → Nat → Int} {n j : Nat} {l : List Nat} (h : j ≠ n) : dL A S e s t (n :: l) j = dL A S e s t l j := iP_n h
theorem dL_e {A A' : Nat → Nat → Prop} {S : Nat} {e : Nat → Nat} {s t : Nat → Nat → Int} (h : ∀ x y, x < S → y < S → (A x y ↔ A' x y)) : ∀ {l : List Nat}, (∀ j ∈ l, j < S) → dL A S e s t l = dL A' S e s t l
  | [], _ => rfl
  | n :: l, hl => by
    have ih := dL_e (e := e) (s := s) (t := t) h (l := l) (fun j hj => hl j (List.mem_cons_of_mem _ hj))
    have hn := hl n List.mem_cons_self
    have es : dSh A S (dL A S e s t l) l n = dSh A' S (dL A' S e s t l) l n := by
      funext u m
      rw [ih]
      exact propext ⟨fun ⟨j, a, b, c, d, f⟩ => ⟨j, a, b, c, (h n j hn b).mp d, f⟩, fun ⟨j, a, b, c, d, f⟩ => ⟨j, a, b, c, (h n j hn b).mpr d, f⟩⟩
    funext j
    show iP (j = n) (dK (dSh A S (dL A S e s t l) l n) (s n) (t n) (e n)) (dL A S e s t l j) = iP (j = n) (dK (dSh A' S (dL A' S e s t l) l n) (s n) (t n) (e n)) (dL A' S e s t l j)
    rw [es, ih]
/-- by numbers -/
def dN : Nat → List Nat
  | 0 => []
  | n + 1 => n :: dN n
theorem dN_mem : ∀ {n j : Nat}, j ∈ dN n ↔ j < n
  | 0, j => ⟨fun h => (by cases h), fun h => absurd h (Nat.not_lt_zero _)⟩
  | n + 1, j => by
    show j ∈ n :: dN n ↔ _
    rw [List.mem_cons, dN_mem]
    omega
/-- the errands, in the rows -/
def dre (p : xH) (r : Nat) (n : Nat) : Nat := (rI p r n).toInt.toNat
def drs (p : xH) (r : Nat) (n k : Nat) : Int := (rI p r (4 * n + k)).toInt
/-- the minutes of all its errands -/
def drt (p : xH) (r r2 : Nat) (n : Nat) : Int32 := hSum (fun j => rI p r2 ((4 * (n : Int)).toNat + j)) (rI p r n).toInt.toNat
/-- waited; as one of all -/
def dWt (T : Int32) (r : dS) : Int32 := match r with
  | none => 0
  | some q => Int32.ofInt q.2.1 - T
def dCt (T : Int32) (r : dS) : Int32 := match r with
  | none => 30
  | some q => Int32.ofInt q.2.1 - T
def dFi (r : dS) : Int := match r with
  | none => -1
  | some q => q.1
def dLa (r : dS) : Int := match r with
  | none => -1
  | some q => q.2.1 - 1
