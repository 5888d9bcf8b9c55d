/-! the best order, as a function -/
theorem fW_le {A : Int → Prop} : ∀ {n : Nat} {b x : Int}, b ≤ x → x < b + n → A x → b ≤ fW A n b ∧ fW A n b ≤ x
  | 0, b, x, h1, h2, _ => absurd h2 (by omega)
  | n + 1, b, x, h1, h2, h3 => by
    rcases Classical.em (A b) with h | h
    · have e : fW A (n + 1) b = b := iP_y h
      rw [e]
      exact ⟨Int.le_refl _, h1⟩
    · have e : fW A (n + 1) b = fW A n (b + 1) := iP_n h
      rw [e]
      have hx : x ≠ b := fun q => h (by rw [← q]; exact h3)
      have := fW_le (n := n) (b := b + 1) (x := x) (by omega) (by push_cast at h2; omega) h3
      omega
theorem gW_le {A : Int → Prop} {N b x : Int} (h1 : b ≤ x) (h2 : x < N) (h3 : A x) : b ≤ gW A N b ∧ gW A N b ≤ x := by
  unfold gW
  exact fW_le h1 (by omega) h3
/-- the minutes of the first k errands -/
def tS (t : Nat → Int) : Nat → Int
  | 0 => 0
  | k + 1 => tS t k + t k
theorem dK_sum {Sh : Int → Int → Prop} {s t : Nat → Int} {e : Nat} (hs : ∀ k, k < e → 0 ≤ s k ∧ s k ≤ 4) (ht : ∀ k, k < e → 1 ≤ t k ∧ t k ≤ 6) : ∀ {k : Nat}, k ≤ e → ∀ {q}, dK Sh s t k = some q → tS t k ≤ q.2.1
  | 0, _, q, h => by
    have h : some (-1, 0, fun _ => -1) = some q := h
    cases h
    exact Int.le_refl _
  | k + 1, hk, q, h => by
    cases hq : dK Sh s t k with
    | none => rw [dK_none hq (Nat.le_succ k)] at h; cases h
    | some q0 =>
      have ih := dK_sum hs ht (k := k) (by omega) hq
      have h0 := dK_inv hs ht (k := k) (by omega) hq
      rcases Int.lt_or_le (dB Sh (s k) (t k) q0.2.1) 0 with g | g
      · rw [dK_no hq rfl g] at h; cases h
      · rw [dK_yes hq rfl g] at h
        cases h
        have := (dI_s h0 rfl g (hs k (by omega)) (ht k (by omega))).1
        show tS t k + t k ≤ dB Sh (s k) (t k) q0.2.1 + t k
        omega
theorem dK_mono {Sh Sh' : Int → Int → Prop} {s t : Nat → Int} {e : Nat} (hs : ∀ k, k < e → 0 ≤ s k ∧ s k ≤ 4) (ht : ∀ k, k < e → 1 ≤ t k ∧ t k ≤ 6) (h : ∀ u m : Int, 0 ≤ u → 0 ≤ m → Sh u m → Sh' u m) : ∀ {k : Nat}, k ≤ e → ∀ {q'}, dK Sh' s t k = some q' → ∃ q, dK Sh s t k = some q ∧ q.2.1 ≤ q'.2.1
  | 0, _, q', h1 => by
    have h1 : some (-1, 0, fun _ => -1) = some q' := h1
    cases h1
    exact ⟨_, rfl, Int.le_refl _⟩
  | k + 1, hk, q', h1 => by
    cases hq : dK Sh' s t k with
    | none => rw [dK_none hq (Nat.le_succ k)] at h1; cases h1
    | some q0 =>
      obtain ⟨q1, c1, c2⟩ := dK_mono hs ht h (k := k) (by omega) hq
      have i0 := dK_inv hs ht (k := k) (by omega) hq
      have i1 := dK_inv hs ht (k := k) (by omega) c1
      rcases Int.lt_or_le (dB Sh' (s k) (t k) q0.2.1) 0 with g | g
      · rw [dK_no hq rfl g] at h1; cases h1
      · rw [dK_yes hq rfl g] at h1
        cases h1
        have b1 := gW_ok (dA Sh' (s k) (t k)) (31 - t k) q0.2.1
        have hb : dB Sh' (s k) (t k) q0.2.1 = gW (dA Sh' (s k) (t k)) (31 - t k) q0.2.1 := rfl
        rw [← hb] at b1
        rcases b1 with b1 | ⟨b1, b2, b3⟩
        · omega
        · have i01 := i1.1
          have bs := (hs k (by omega)).1
          have b4 := gW_le (A := dA Sh (s k) (t k)) (N := 31 - t k) (b := q1.2.1) (x := dB Sh' (s k) (t k) q0.2.1) (by omega) b2 (fun j j1 j2 z => b3 j j1 j2 (h _ _ bs (by omega) z))
          have hb2 : dB Sh (s k) (t k) q1.2.1 = gW (dA Sh (s k) (t k)) (31 - t k) q1.2.1 := rfl
          rw [← hb2] at b4
          refine ⟨_, dK_yes c1 rfl (by omega), ?_⟩
          show dB Sh (s k) (t k) q1.2.1 + t k ≤ dB Sh' (s k) (t k) q0.2.1 + t k
          omega
/-- what one's turn costs -/
def dcI (T : Int) (r : dS) : Int := match r with
  | none => 30
  | some q => q.2.1 - T
theorem dcI_b {Sh : Int → Int → Prop} {s t : Nat → Int} {e : Nat} (hs : ∀ k, k < e → 0 ≤ s k ∧ s k ≤ 4) (ht : ∀ k, k < e → 1 ≤ t k ∧ t k ≤ 6) (hT : 0 ≤ tS t e) : 0 ≤ dcI (tS t e) (dK Sh s t e) ∧ dcI (tS t e) (dK Sh s t e) ≤ 30 := by
  cases hq : dK Sh s t e with
  | none => exact ⟨by show (0 : Int) ≤ 30; decide, by show (30 : Int) ≤ 30; decide⟩
  | some q =>
    have h1 := dK_sum hs ht (Nat.le_refl _) hq
    have h2 := (dK_inv hs ht (Nat.le_refl _) hq).2.1
    show 0 ≤ q.2.1 - tS t e ∧ q.2.1 - tS t e ≤ 30
    omega
theorem tS_0 {t : Nat → Int} {e : Nat} (ht : ∀ k, k < e → 1 ≤ t k ∧ t k ≤ 6) : ∀ {k : Nat}, k ≤ e → 0 ≤ tS t k
  | 0, _ => Int.le_refl _
  | k + 1, hk => by
    have h1 := tS_0 ht (k := k) (by omega)
    have h2 := ht k (by omega)
    show 0 ≤ tS t k + t k
    omega
theorem dcI_mono {Sh Sh' : Int → Int → Prop} {s t : Nat → Int} {e : Nat} (hs : ∀ k, k < e → 0 ≤ s k ∧ s k ≤ 4) (ht : ∀ k, k < e → 1 ≤ t k ∧ t k ≤ 6) (h : ∀ u m : Int, 0 ≤ u → 0 ≤ m → Sh u m → Sh' u m) : dcI (tS t e) (dK Sh s t e) ≤ dcI (tS t e) (dK Sh' s t e) := by
  cases hq : dK Sh' s t e with
  | none => exact (dcI_b hs ht (tS_0 ht (Nat.le_refl _))).2
  | some q' =>
    obtain ⟨q, c1, c2⟩ := dK_mono hs ht h (Nat.le_refl _) hq
    rw [c1]
    show q.2.1 - _ ≤ q'.2.1 - _
    omega
/-- what n's turn costs behind l; what an order costs -/
noncomputable def cN (A : Nat → Nat → Prop) (S : Nat) (e : Nat → Nat) (s t : Nat → Nat → Int) (l : List Nat) (n : Nat) : Int := dcI (tS (t n) (e n)) (dK (dSh A S (dL A S e s t l) l n) (s n) (t n) (e n))
noncomputable def cL (A : Nat → Nat → Prop) (S : Nat) (e : Nat → Nat) (s t : Nat → Nat → Int) : List Nat → Int
  | [] => 0
  | n :: l => cL A S e s t l + cN A S e s t l n
/-- orders that go on from l with k more -/
def lExt (S : Nat) : Nat → List Nat → List Nat → Prop
  | 0, l, l' => l' = l
  | k + 1, l, l' => ∃ n, n < S ∧ n ∉ l ∧ lExt S k (n :: l) l'
def hEs (S : Nat) (e : Nat → Nat) (s t : Nat → Nat → Int) : Prop := ∀ n, n < S → (∀ k, k < e n → 0 ≤ s n k ∧ s n k ≤ 4) ∧ (∀ k, k < e n → 1 ≤ t n k ∧ t n k ≤ 6)
theorem cN_b {A : Nat → Nat → Prop} {S : Nat} {e : Nat → Nat} {s t : Nat → Nat → Int} (h : hEs S e s t) {l : List Nat} {n : Nat} (hn : n < S) : 0 ≤ cN A S e s t l n ∧ cN A S e s t l n ≤ 30 := dcI_b (h n hn).1 (h n hn).2 (tS_0 (h n hn).2 (Nat.le_refl _))
theorem cN_mono {A : Nat → Nat → Prop} {S : Nat} {e : Nat → Nat} {s t : Nat → Nat → Int} (h : hEs S e s t) {l : List Nat} {n m : Nat} (hm : m < S) (hn : n ∉ l) : cN A S e s t l m ≤ cN A S e s t (n :: l) m := dcI_mono (h m hm).1 (h m hm).2 (fun u i _ _ ⟨j, a, b, c, d, f⟩ => ⟨j, List.mem_cons_of_mem _ a, b, c, d, by
  rw [dL_t (fun z => hn (by rw [← z]; exact a))]
  exact f⟩)
theorem cL_ext {A : Nat → Nat → Prop} {S : Nat} {e : Nat → Nat} {s t : Nat → Nat → Int} (h : hEs S e s t) : ∀ {k : Nat} {l l' : List Nat}, lExt S k l l' → cL A S e s t l ≤ cL A S e s t l'
  | 0, l, l', g => by
    have g : l' = l := g
    rw [g]; exact Int.le_refl _
  | k + 1, l, l', ⟨n, hn, _, g⟩ => by
    have h1 := cL_ext (A := A) h g
    have h2 := cN_b (A := A) h (l := l) hn
    have h3 : cL A S e s t (n :: l) = cL A S e s t l + cN A S e s t l n := rfl
    omega
/-- what those who are wanting cost at least -/
noncomputable def cR (A : Nat → Nat → Prop) (S : Nat) (e : Nat → Nat) (s t : Nat → Nat → Int) (l : List Nat) : Nat → Int
  | 0 => 0
  | m + 1 => cR A S e s t l m + if m ∈ l then 0 else cN A S e s t l m
theorem cR_s {A : Nat → Nat → Prop} {S : Nat} {e : Nat → Nat} {s t : Nat → Nat → Int} (h : hEs S e s t) {l : List Nat} {n : Nat} (hn : n ∉ l) (hnS : n < S) : ∀ {m : Nat}, m ≤ S → cR A S e s t l m ≤ cR A S e s t (n :: l) m + if n < m then cN A S e s t l n else 0
  | 0, _ => by
    rw [if_neg (Nat.not_lt_zero _)]
    exact Int.le_refl _
  | m + 1, hm => by
    have ih := cR_s (A := A) h hn hnS (m := m) (by omega)
    show cR A S e s t l m + (if m ∈ l then 0 else cN A S e s t l m) ≤ cR A S e s t (n :: l) m + (if m ∈ n :: l then 0 else cN A S e s t (n :: l) m) + _
    by_cases g : m = n
    · subst g
      rw [if_neg (Nat.lt_irrefl _)] at ih
      rw [if_neg hn, if_pos List.mem_cons_self, if_pos (Nat.lt_succ_self _)]
      omega
    · have e1 : (if n < m + 1 then cN A S e s t l n else 0) = if n < m then cN A S e s t l n else 0 := by
        by_cases q : n < m
        · rw [if_pos q, if_pos (by omega)]
        · rw [if_neg q, if_neg (by omega)]
      rw [e1]
      by_cases q : m ∈ l
      · rw [if_pos q, if_pos (List.mem_cons_of_mem _ q)]
        omega
      · have h2 := cN_mono (A := A) h (l := l) (n := n) (m := m) (by omega) hn
        rw [if_neg q, if_neg (fun z => by rcases List.mem_cons.mp z with z | z; exact g z; exact q z)]
        omega
theorem cR_ext {A : Nat → Nat → Prop} {S : Nat} {e : Nat → Nat} {s t : Nat → Nat → Int} (h : hEs S e s t) : ∀ {k : Nat} {l l' : List Nat}, lExt S k l l' → (∀ n, n < S → n ∈ l') → cL A S e s t l + cR A S e s t l S ≤ cL A S e s t l'
  | 0, l, l', g, hf => by
    have g : l' = l := g
    subst g
    have z : ∀ m, m ≤ S → cR A S e s t l' m = 0 := fun m => by
      induction m with
      | zero => intro _; rfl
      | succ m ih => intro hm; show cR A S e s t l' m + (if m ∈ l' then 0 else _) = 0; rw [ih (by omega), if_pos (hf m (by omega))]; rfl
    rw [z S (Nat.le_refl _)]
    omega
  | k + 1, l, l', ⟨n, hn, hl, g⟩, hf => by
    have h1 := cR_ext (A := A) h g hf
    have h2 := cR_s (A := A) h hl hn (m := S) (Nat.le_refl _)
    rw [if_pos hn] at h2
    have h3 : cL A S e s t (n :: l) = cL A S e s t l + cN A S e s t l n := rfl
    omega
/-- a loop over the numbers below -/
def bR {β : Type} (f : Nat → β → β) : Nat → β → β
  | 0, b => b
  | n + 1, b => f n (bR f n b)
theorem bR_id {β : Type} {f : Nat → β → β} {b : β} : ∀ {n : Nat}, (∀ m, m < n → f m b = b) → bR f n b = b
  | 0, _ => rfl
  | n + 1, h => by
    show f n (bR f n b) = b
    rw [bR_id (fun m hm => h m (by omega)), h n (by omega)]
/-- the search, nothing left out -/
noncomputable def bS (A : Nat → Nat → Prop) (S : Nat) (e : Nat → Nat) (s t : Nat → Nat → Int) : Nat → List Nat → Int × List Nat → Int × List Nat
  | 0, l, b => if cL A S e s t l < b.1 then (cL A S e s t l, l) else b
  | k + 1, l, b => bR (fun n b => if n ∈ l then b else bS A S e s t k (n :: l) b) S b
/-- what can be left out -/
theorem bS_no {A : Nat → Nat → Prop} {S : Nat} {e : Nat → Nat} {s t : Nat → Nat → Int} {b : Int × List Nat} : ∀ {k : Nat} {l : List Nat}, (∀ l', lExt S k l l' → b.1 ≤ cL A S e s t l') → bS A S e s t k l b = b
  | 0, l, h => if_neg (by have := h l rfl; omega)
  | k + 1, l, h => bR_id (fun n hn => by
    by_cases g : n ∈ l
    · exact if_pos g
    · exact (if_neg g).trans (bS_no (fun l' hl => h l' ⟨n, hn, g, hl⟩)))
